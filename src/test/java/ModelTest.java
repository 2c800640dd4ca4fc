import java.util.Random;

/** Long runs of calls, drawn with fixed seeds, each answer compared with that of the model. */
public final class ModelTest {
    private static final int RUNS = 300;
    private static final int CALLS = 512;
    private static final int[] ODD = {
        Integer.MIN_VALUE, -1000, -2, -1, 0, 1, 2, 3, 5, 6, 7, 8, 9, 10, 11, 12, 17, 18, 20, 27, 28, 49, 50, 51, 60,
        99, 100, 101, 126, 127, 499, 500, 501, 1000, 1001, 4999, 5000, 5001, 100000, 100001, Integer.MAX_VALUE};

    private final Checks checks;
    private final Random random;
    private final BottleLoop real = new BottleLoop();
    private final Model model = new Model();
    /** Few kinds and shops make runs in which more happens to each. */
    private final int kinds;
    private final boolean richBrands;

    private ModelTest(Checks checks, long seed) {
        this.checks = checks;
        random = new Random(seed);
        kinds = 1 + random.nextInt(3);
        richBrands = random.nextInt(12) == 0;
    }

    public static void main(String[] args) {
        Checks checks = new Checks();
        for (int run = 0; run < RUNS && !checks.anyWrong(); run++) {
            checks.begin("run " + run);
            new ModelTest(checks, 7000 + run).oneRun();
        }
        checks.end();
    }

    private void oneRun() {
        int calls = 0;
        while (calls < CALLS - 1 && !checks.anyWrong()) {
            calls += calls < 16 ? begin(calls) : step(CALLS - 1 - calls);
        }
        both("digest()", real::digest, model::digest);
        checks.same("deposits", real.count(4), model.depositsDue());
    }

    private void both(String what, Checks.Call one, Checks.Call other) {
        checks.same(what, Checks.outcome(one), Checks.outcome(other));
    }

    private int begin(int call) {
        if (call < 4) {
            return addBrand(random.nextInt(kinds), richBrands ? 2000 : 40 + random.nextInt(160));
        }
        if (call < 7) {
            return addShop(random.nextInt(4) == 0 ? 300 : 4000 + random.nextInt(9000));
        }
        if (call == 7) {
            return buyCrates(richBrands ? 400 : 5 + random.nextInt(60));
        }
        if (call == 8) {
            return set(5, random.nextInt(2) == 0 ? 2 + random.nextInt(9) : 10 + random.nextInt(40));
        }
        return call == 9 ? set(random.nextInt(5), 2 + random.nextInt(90)) : fill();
    }

    // ---- what is drawn

    private boolean rarely() {
        return random.nextInt(40) == 0;
    }

    private int odd() {
        return ODD[random.nextInt(ODD.length)];
    }

    private int aBrand() {
        return rarely() ? odd() : random.nextInt(Math.max(1, model.count(0)));
    }

    private int aShop() {
        return rarely() ? odd() : random.nextInt(Math.max(1, model.count(1)));
    }

    private int aKind() {
        return rarely() ? odd() : random.nextInt(kinds);
    }

    /** Mostly a number that there is, or just about. */
    private int some(int there) {
        switch (random.nextInt(12)) {
            case 0:
                return random.nextInt(3) == 0 ? odd() : 1;
            case 1:
                return there + 1;
            case 2:
            case 3:
            case 4:
                return there;
            case 5:
                return 12;
            default:
                return 1 + random.nextInt(Math.max(1, there));
        }
    }

    private int brandNumber(int brand, int what) {
        return brand >= 0 && brand < model.count(0) ? model.brand(brand, what) : 1;
    }

    private int shopNumber(int shop, int what) {
        return shop >= 0 && shop < model.count(1) ? model.shop(shop, what) : 1;
    }

    private int shopOf(int shop, int brand, int from) {
        return brand >= 0 && brand < 8 ? shopNumber(shop, from + brand) : 1;
    }

    /** A shop and a brand, mostly such that the shop has bottles of the brand; from is 10 for full ones, 20 for empty. */
    private int[] shopAndBrand(int from) {
        int[] pair = {aShop(), aBrand()};
        for (int i = 0; i < 30 && shopOf(pair[0], pair[1], from) == 0 && !rarely(); i++) {
            pair[0] = aShop();
            pair[1] = aBrand();
        }
        return pair;
    }

    private int aBrandWith(int what) {
        int b = aBrand();
        for (int i = 0; i < 30 && brandNumber(b, what) == 0 && !rarely(); i++) {
            b = aBrand();
        }
        return b;
    }

    /** Bottles are collected where there are crates, so most are taken back there. */
    private int aShopWithCrates() {
        int s = aShop();
        for (int i = 0; i < 30 && shopNumber(s, 1) == 0 && !rarely(); i++) {
            s = aShop();
        }
        return s;
    }

    // ---- one call, or some that belong together; each tells how many calls it made

    private int step(int left) {
        switch (random.nextInt(26)) {
            case 0:
                return random.nextInt(8) == 0 ? addBrand(random.nextInt(4) - 1, random.nextInt(200)) : set(odd(), odd());
            case 1:
                return random.nextInt(8) == 0 ? addShop(some(100000)) : buyCrates(rarely() ? odd() : 1);
            case 2:
                return set(random.nextInt(6), random.nextInt(3) == 0 ? odd() : 2 + random.nextInt(90));
            case 3:
            case 4:
                return fill();
            case 5:
            case 6:
            case 7:
                return deliver();
            case 8:
            case 9:
            case 10:
                return sell();
            case 11:
            case 12:
            case 13:
                return takeBack();
            case 14:
                return random.nextInt(2) == 0 ? breaks() : lose();
            case 15:
            case 16:
            case 17:
                return collect();
            case 18:
                return sort();
            case 19:
                return swap();
            case 20:
                return left > 80 ? orders() : look();
            case 21:
                return random.nextInt(3) == 0 ? undo() : look();
            case 22:
                return digest();
            default:
                return look();
        }
    }

    private int addBrand(int kind, int bottles) {
        both("addBrand(" + kind + ", " + bottles + ")",
                () -> real.addBrand(kind, bottles), () -> model.addBrand(kind, bottles));
        return 1;
    }

    private int addShop(int money) {
        both("addShop(" + money + ")", () -> real.addShop(money), () -> model.addShop(money));
        return 1;
    }

    private int buyCrates(int many) {
        both("buyCrates(" + many + ")", () -> real.buyCrates(many), () -> model.buyCrates(many));
        return 1;
    }

    private int set(int setting, int value) {
        both("set(" + setting + ", " + value + ")", () -> real.set(setting, value), () -> model.set(setting, value));
        return 1;
    }

    private int fill() {
        int b = aBrandWith(1);
        int many = some(brandNumber(b, 1));
        both("filled(" + b + ", " + many + ")", () -> real.filled(b, many), () -> model.filled(b, many));
        both("fill(" + b + ", " + many + ")", () -> real.fill(b, many), () -> model.fill(b, many));
        return 2;
    }

    private int deliver() {
        int b = aBrandWith(2);
        int s = aShop();
        int crates = some(random.nextInt(3) == 0 ? brandNumber(b, 2) / 12 : couldDeliver(b, s));
        both("whyNotDeliver(" + b + ", " + s + ", " + crates + ")",
                () -> real.whyNotDeliver(b, s, crates), () -> model.whyNotDeliver(b, s, crates));
        both("deliver(" + b + ", " + s + ", " + crates + ")",
                () -> real.deliver(b, s, crates), () -> model.deliver(b, s, crates));
        return 2;
    }

    private int couldDeliver(int b, int s) {
        return b >= 0 && b < model.count(0) && s >= 0 && s < model.count(1)
                ? model.mostCrates(b, s) : 1;
    }

    private int sell() {
        int[] pair = shopAndBrand(10);
        int s = pair[0];
        int b = pair[1];
        int many = some(shopOf(s, b, 10));
        both("sell(" + s + ", " + b + ", " + many + ")", () -> real.sell(s, b, many), () -> model.sell(s, b, many));
        return 1;
    }

    private int takeBack() {
        int s = aShopWithCrates();
        int b = aBrandWith(5);
        int many = some(brandNumber(b, 5));
        both("takeBack(" + s + ", " + b + ", " + many + ")",
                () -> real.takeBack(s, b, many), () -> model.takeBack(s, b, many));
        return 1;
    }

    private int breaks() {
        int[] pair = shopAndBrand(20);
        int s = pair[0];
        int b = pair[1];
        int many = some(Math.min(shopOf(s, b, 20), 6));
        both("breaks(" + s + ", " + b + ", " + many + ")",
                () -> real.breaks(s, b, many), () -> model.breaks(s, b, many));
        return 1;
    }

    private int lose() {
        int b = aBrandWith(5);
        int many = some(Math.min(brandNumber(b, 5), 4));
        both("lose(" + b + ", " + many + ")", () -> real.lose(b, many), () -> model.lose(b, many));
        return 1;
    }

    private int collect() {
        int[] pair = shopAndBrand(20);
        int s = pair[0];
        int b = pair[1];
        int kind = rarely() ? odd() : brandNumber(b, 0);
        int crates = some(Math.max(1, Math.min(shopNumber(s, 1), shopNumber(s, 3) / 12)));
        both("bestShop(" + kind + ")", () -> real.bestShop(kind), () -> model.bestShop(kind));
        both("collected(" + s + ", " + b + ", " + crates + ")",
                () -> real.collected(s, b, crates), () -> model.collected(s, b, crates));
        both("whyNotCollect(" + s + ", " + kind + ", " + crates + ")",
                () -> real.whyNotCollect(s, kind, crates), () -> model.whyNotCollect(s, kind, crates));
        both("collect(" + s + ", " + kind + ", " + crates + ")",
                () -> real.collect(s, kind, crates), () -> model.collect(s, kind, crates));
        return 4;
    }

    private int sort() {
        int b = aBrandWith(6);
        int kind = rarely() ? aKind() : brandNumber(b, 0);
        int many = some(brandNumber(b, 6));
        both("sort(" + kind + ", " + many + ")", () -> real.sort(kind, many), () -> model.sort(kind, many));
        return 1;
    }

    private int swap() {
        int from = aBrandWith(1);
        int to = aBrand();
        int many = some(Math.min(brandNumber(from, 1), 20));
        both("swap(" + from + ", " + to + ", " + many + ")",
                () -> real.swap(from, to, many), () -> model.swap(from, to, many));
        return 1;
    }

    private int undo() {
        both("undo()", real::undo, model::undo);
        return 1;
    }

    private int digest() {
        both("digest()", real::digest, model::digest);
        return 1;
    }

    // ---- texts

    private int orders() {
        StringBuilder text = new StringBuilder();
        int many = 1 + random.nextInt(6);
        for (int i = 0; i < many; i++) {
            text.append(i == 0 ? "" : ";").append(anOrder());
        }
        if (random.nextInt(5) == 0) {
            spoil(text);
        }
        int calls = 0;
        for (int i = 0; i < text.length(); i++) {
            int code = text.charAt(i);
            both("append(" + code + ")", () -> real.append(code), () -> model.append(code));
            calls++;
        }
        both("firstError() of " + text, real::firstError, model::firstError);
        both("run() of " + text, real::run, model::run);
        both("count(9)", () -> real.count(9), () -> model.count(9));
        if (random.nextInt(6) > 0) {
            both("clearBuffer()", real::clearBuffer, model::clearBuffer);
        }
        return calls + 4;
    }

    private String anOrder() {
        int[] full = inText(shopAndBrand(10));
        int[] empty = inText(shopAndBrand(20));
        int s = within(aShopWithCrates(), 6);
        switch (random.nextInt(5)) {
            case 0:
                int b = within(aBrandWith(2), 8);
                return "d" + b + ">" + s + "*" + (1 + random.nextInt(random.nextInt(4) == 0 ? 50 : 3));
            case 1:
                return "s" + full[0] + ":" + full[1] + "*" + someInText(shopOf(full[0], full[1], 10));
            case 2:
                int out = within(aBrandWith(5), 8);
                return "r" + s + ":" + out + "*" + someInText(brandNumber(out, 5));
            case 3:
                return "b" + empty[0] + ":" + empty[1] + "*" + (1 + random.nextInt(random.nextInt(4) == 0 ? 500 : 3));
            default:
                return "c" + empty[0] + ":" + within(brandNumber(empty[1], 0), 3) + "*"
                        + (1 + random.nextInt(random.nextInt(4) == 0 ? 50 : 2));
        }
    }

    private static int within(int number, int bound) {
        return Math.floorMod(number, bound);
    }

    private static int[] inText(int[] pair) {
        return new int[] {within(pair[0], 6), within(pair[1], 8)};
    }

    private int someInText(int there) {
        return Math.max(1, Math.min(500, some(there)));
    }

    private void spoil(StringBuilder text) {
        int at = random.nextInt(text.length());
        String signs = "dsrbc0123456789:>*;x~!";
        char sign = signs.charAt(random.nextInt(signs.length()));
        switch (random.nextInt(3)) {
            case 0:
                text.setCharAt(at, sign);
                break;
            case 1:
                text.insert(at, sign);
                break;
            default:
                text.deleteCharAt(at);
                break;
        }
    }

    // ---- what there is and what would be

    private int look() {
        int b = aBrand();
        int s = aShop();
        int what = random.nextInt(8) == 0 ? odd() : random.nextInt(30);
        switch (random.nextInt(10)) {
            case 0:
                both("brand(" + b + ", " + what + ")", () -> real.brand(b, what), () -> model.brand(b, what));
                return 1;
            case 1:
                both("shop(" + s + ", " + what + ")", () -> real.shop(s, what), () -> model.shop(s, what));
                return 1;
            case 2:
                both("count(" + what + ")", () -> real.count(what), () -> model.count(what));
                return 1;
            case 3:
                both("setting(" + what + ")", () -> real.setting(what), () -> model.setting(what));
                return 1;
            case 4:
                both("mostCrates(" + b + ", " + s + ")", () -> real.mostCrates(b, s), () -> model.mostCrates(b, s));
                return 1;
            case 5:
                both("whyNotDeliver(" + b + ", " + s + ", " + what + ")",
                        () -> real.whyNotDeliver(b, s, what), () -> model.whyNotDeliver(b, s, what));
                return 1;
            case 6:
                both("collected(" + s + ", " + b + ", " + what + ")",
                        () -> real.collected(s, b, what), () -> model.collected(s, b, what));
                return 1;
            case 7:
                both("whyNotCollect(" + s + ", " + (what % 4) + ", " + what + ")",
                        () -> real.whyNotCollect(s, what % 4, what), () -> model.whyNotCollect(s, what % 4, what));
                return 1;
            case 8:
                both("bestShop(" + (what % 4) + ")", () -> real.bestShop(what % 4), () -> model.bestShop(what % 4));
                return 1;
            default:
                both("goneShare()", real::goneShare, model::goneShare);
                return 1;
        }
    }
}
