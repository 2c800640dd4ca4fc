import java.util.Random;

/** Long runs of calls, drawn with fixed seeds, each answer compared with that of the model. */
public final class ModelTest {
    private static final int RUNS = 160;
    private static final int CALLS = 512;
    private static final int[] ODD = {
        Integer.MIN_VALUE, -1000, -2, -1, 0, 1, 2, 3, 5, 6, 7, 8, 9, 10, 11, 12, 17, 18, 20, 27, 28, 49, 50, 51, 60,
        99, 100, 101, 126, 127, 499, 500, 501, 1000, 1001, 4999, 5000, 5001, 100000, 100001, Integer.MAX_VALUE};

    private final Checks checks;
    private final Random random;
    private final BottleLoop real = new BottleLoop();
    private final Model model = new Model();
    /** Few kinds and shops make runs in which more happens to each. */
    private final int kinds;
    private final boolean richBrands;

    private ModelTest(Checks checks, long seed) {
        this.checks = checks;
        random = new Random(seed);
        kinds = 1 + random.nextInt(3);
        richBrands = random.nextInt(12) == 0;
    }

    public static void main(String[] args) {
        Checks checks = new Checks();
        for (int run = 0; run < RUNS && !checks.anyWrong(); run++) {
            checks.begin("run " + run);
            new ModelTest(checks, 7000 + run).oneRun();
        }
        checks.end();
    }

    private void oneRun() {
        int calls = 0;
        while (calls < CALLS - 1 && !checks.anyWrong()) {
            calls += calls < 12 ? begin(calls) : step(CALLS - 1 - calls);
        }
        both("digest()", real::digest, model::digest);
        checks.same("deposits", real.count(4), model.depositsDue());
    }

    private void both(String what, Checks.Call one, Checks.Call other) {
        checks.same(what, Checks.outcome(one), Checks.outcome(other));
    }

    private int begin(int call) {
        if (call < 4) {
            return addBrand(random.nextInt(kinds), richBrands ? 2000 : 40 + random.nextInt(160));
        }
        if (call < 7) {
            return addShop(random.nextInt(4) == 0 ? 300 : 4000 + random.nextInt(9000));
        }
        if (call == 7) {
            return buyCrates(richBrands ? 400 : 5 + random.nextInt(60));
        }
        return set(call == 8 ? 5 : random.nextInt(5), 2 + random.nextInt(9));
    }

    // ---- what is drawn

    private boolean rarely() {
        return random.nextInt(40) == 0;
    }

    private int odd() {
        return ODD[random.nextInt(ODD.length)];
    }

    private int aBrand() {
        return rarely() ? odd() : random.nextInt(Math.max(1, model.count(0)));
    }

    private int aShop() {
        return rarely() ? odd() : random.nextInt(Math.max(1, model.count(1)));
    }

    private int aKind() {
        return rarely() ? odd() : random.nextInt(kinds);
    }

    /** Mostly a number that there is, or just about. */
    private int some(int there) {
        switch (random.nextInt(12)) {
            case 0:
                return odd();
            case 1:
                return there + 1;
            case 2:
            case 3:
                return there;
            case 4:
                return 1;
            case 5:
                return 12;
            default:
                return 1 + random.nextInt(Math.max(1, there));
        }
    }

    private int brandNumber(int brand, int what) {
        return brand >= 0 && brand < model.count(0) ? model.brand(brand, what) : 1;
    }

    private int shopNumber(int shop, int what) {
        return shop >= 0 && shop < model.count(1) ? model.shop(shop, what) : 1;
    }

    private int shopOf(int shop, int brand, int from) {
        return brand >= 0 && brand < 8 ? shopNumber(shop, from + brand) : 1;
    }

    // ---- one call, or some that belong together; each tells how many calls it made

    private int step(int left) {
        switch (random.nextInt(24)) {
            case 0:
                return rarely() ? addBrand(random.nextInt(4) - 1, random.nextInt(200)) : set(odd(), odd());
            case 1:
                return rarely() ? addShop(some(100000)) : buyCrates(random.nextInt(4) == 0 ? odd() : 1);
            case 2:
                return set(random.nextInt(6), random.nextInt(3) == 0 ? odd() : 2 + random.nextInt(90));
            case 3:
            case 4:
                return fill();
            case 5:
            case 6:
                return deliver();
            case 7:
            case 8:
                return sell();
            case 9:
            case 10:
                return takeBack();
            case 11:
                return random.nextInt(3) == 0 ? breaks() : lose();
            case 12:
            case 13:
                return collect();
            case 14:
                return sort();
            case 15:
                return swap();
            case 16:
            case 17:
                return left > 80 ? orders() : look();
            case 18:
                return random.nextInt(2) == 0 ? undo() : digest();
            case 19:
                return digest();
            default:
                return look();
        }
    }

    private int addBrand(int kind, int bottles) {
        both("addBrand(" + kind + ", " + bottles + ")",
                () -> real.addBrand(kind, bottles), () -> model.addBrand(kind, bottles));
        return 1;
    }

    private int addShop(int money) {
        both("addShop(" + money + ")", () -> real.addShop(money), () -> model.addShop(money));
        return 1;
    }

    private int buyCrates(int many) {
        both("buyCrates(" + many + ")", () -> real.buyCrates(many), () -> model.buyCrates(many));
        return 1;
    }

    private int set(int setting, int value) {
        both("set(" + setting + ", " + value + ")", () -> real.set(setting, value), () -> model.set(setting, value));
        return 1;
    }

    private int fill() {
        int b = aBrand();
        int many = some(brandNumber(b, 1));
        both("filled(" + b + ", " + many + ")", () -> real.filled(b, many), () -> model.filled(b, many));
        both("fill(" + b + ", " + many + ")", () -> real.fill(b, many), () -> model.fill(b, many));
        return 2;
    }

    private int deliver() {
        int b = aBrand();
        int s = aShop();
        int crates = some(brandNumber(b, 2) / 12);
        both("whyNotDeliver(" + b + ", " + s + ", " + crates + ")",
                () -> real.whyNotDeliver(b, s, crates), () -> model.whyNotDeliver(b, s, crates));
        both("deliver(" + b + ", " + s + ", " + crates + ")",
                () -> real.deliver(b, s, crates), () -> model.deliver(b, s, crates));
        return 2;
    }

    private int sell() {
        int s = aShop();
        int b = aBrand();
        int many = some(shopOf(s, b, 10));
        both("sell(" + s + ", " + b + ", " + many + ")", () -> real.sell(s, b, many), () -> model.sell(s, b, many));
        return 1;
    }

    private int takeBack() {
        int s = aShop();
        int b = aBrand();
        int many = some(brandNumber(b, 5));
        both("takeBack(" + s + ", " + b + ", " + many + ")",
                () -> real.takeBack(s, b, many), () -> model.takeBack(s, b, many));
        return 1;
    }

    private int breaks() {
        int s = aShop();
        int b = aBrand();
        int many = some(Math.min(shopOf(s, b, 20), 6));
        both("breaks(" + s + ", " + b + ", " + many + ")",
                () -> real.breaks(s, b, many), () -> model.breaks(s, b, many));
        return 1;
    }

    private int lose() {
        int b = aBrand();
        int many = some(Math.min(brandNumber(b, 5), 4));
        both("lose(" + b + ", " + many + ")", () -> real.lose(b, many), () -> model.lose(b, many));
        return 1;
    }

    private int collect() {
        int s = aShop();
        int b = aBrand();
        int kind = rarely() ? odd() : brandNumber(b, 0);
        int crates = some(Math.min(shopNumber(s, 1), shopNumber(s, 3) / 12));
        both("collected(" + s + ", " + b + ", " + crates + ")",
                () -> real.collected(s, b, crates), () -> model.collected(s, b, crates));
        both("whyNotCollect(" + s + ", " + kind + ", " + crates + ")",
                () -> real.whyNotCollect(s, kind, crates), () -> model.whyNotCollect(s, kind, crates));
        both("collect(" + s + ", " + kind + ", " + crates + ")",
                () -> real.collect(s, kind, crates), () -> model.collect(s, kind, crates));
        return 3;
    }

    private int sort() {
        int kind = aKind();
        int many = some(model.count(8));
        both("sort(" + kind + ", " + many + ")", () -> real.sort(kind, many), () -> model.sort(kind, many));
        return 1;
    }

    private int swap() {
        int from = aBrand();
        int to = aBrand();
        int many = some(brandNumber(from, 1));
        both("swap(" + from + ", " + to + ", " + many + ")",
                () -> real.swap(from, to, many), () -> model.swap(from, to, many));
        return 1;
    }

    private int undo() {
        both("undo()", real::undo, model::undo);
        return 1;
    }

    private int digest() {
        both("digest()", real::digest, model::digest);
        return 1;
    }

    // ---- texts

    private int orders() {
        StringBuilder text = new StringBuilder();
        int many = 1 + random.nextInt(6);
        for (int i = 0; i < many; i++) {
            text.append(i == 0 ? "" : ";").append(anOrder());
        }
        if (random.nextInt(4) == 0) {
            spoil(text);
        }
        int calls = 0;
        for (int i = 0; i < text.length(); i++) {
            int code = text.charAt(i);
            both("append(" + code + ")", () -> real.append(code), () -> model.append(code));
            calls++;
        }
        both("firstError() of " + text, real::firstError, model::firstError);
        both("run() of " + text, real::run, model::run);
        both("count(9)", () -> real.count(9), () -> model.count(9));
        if (random.nextInt(6) > 0) {
            both("clearBuffer()", real::clearBuffer, model::clearBuffer);
        }
        return calls + 4;
    }

    private String anOrder() {
        int s = random.nextInt(20) == 0 ? random.nextInt(6) : random.nextInt(Math.max(1, model.count(1)));
        int b = random.nextInt(20) == 0 ? random.nextInt(8) : random.nextInt(Math.max(1, model.count(0)));
        switch (random.nextInt(5)) {
            case 0:
                return "d" + b + ">" + s + "*" + (1 + random.nextInt(random.nextInt(4) == 0 ? 50 : 3));
            case 1:
                return "s" + s + ":" + b + "*" + someInText(shopOf(s, b, 10));
            case 2:
                return "r" + s + ":" + b + "*" + someInText(brandNumber(b, 5));
            case 3:
                return "b" + s + ":" + b + "*" + (1 + random.nextInt(random.nextInt(4) == 0 ? 500 : 3));
            default:
                return "c" + s + ":" + random.nextInt(3) + "*" + (1 + random.nextInt(random.nextInt(4) == 0 ? 50 : 3));
        }
    }

    private int someInText(int there) {
        return Math.max(1, Math.min(500, some(there)));
    }

    private void spoil(StringBuilder text) {
        int at = random.nextInt(text.length());
        String signs = "dsrbc0123456789:>*;x~!";
        char sign = signs.charAt(random.nextInt(signs.length()));
        switch (random.nextInt(3)) {
            case 0:
                text.setCharAt(at, sign);
                break;
            case 1:
                text.insert(at, sign);
                break;
            default:
                text.deleteCharAt(at);
                break;
        }
    }

    // ---- what there is and what would be

    private int look() {
        int b = aBrand();
        int s = aShop();
        int what = random.nextInt(8) == 0 ? odd() : random.nextInt(30);
        switch (random.nextInt(10)) {
            case 0:
                both("brand(" + b + ", " + what + ")", () -> real.brand(b, what), () -> model.brand(b, what));
                return 1;
            case 1:
                both("shop(" + s + ", " + what + ")", () -> real.shop(s, what), () -> model.shop(s, what));
                return 1;
            case 2:
                both("count(" + what + ")", () -> real.count(what), () -> model.count(what));
                return 1;
            case 3:
                both("setting(" + what + ")", () -> real.setting(what), () -> model.setting(what));
                return 1;
            case 4:
                both("mostCrates(" + b + ", " + s + ")", () -> real.mostCrates(b, s), () -> model.mostCrates(b, s));
                return 1;
            case 5:
                both("whyNotDeliver(" + b + ", " + s + ", " + what + ")",
                        () -> real.whyNotDeliver(b, s, what), () -> model.whyNotDeliver(b, s, what));
                return 1;
            case 6:
                both("collected(" + s + ", " + b + ", " + what + ")",
                        () -> real.collected(s, b, what), () -> model.collected(s, b, what));
                return 1;
            case 7:
                both("whyNotCollect(" + s + ", " + (what % 4) + ", " + what + ")",
                        () -> real.whyNotCollect(s, what % 4, what), () -> model.whyNotCollect(s, what % 4, what));
                return 1;
            case 8:
                both("bestShop(" + (what % 4) + ")", () -> real.bestShop(what % 4), () -> model.bestShop(what % 4));
                return 1;
            default:
                both("goneShare()", real::goneShare, model::goneShare);
                return 1;
        }
    }
}
