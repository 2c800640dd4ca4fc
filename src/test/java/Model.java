import java.util.ArrayList;
import java.util.Arrays;
import java.util.List;
import java.util.regex.Matcher;
import java.util.regex.Pattern;

/**
 * The document once more, written as differently from the class under test as it goes: every bottle is an object of
 * its own with a place, every number is counted anew, and texts are read with regular expressions.
 */
final class Model {
    enum Place { EMPTY, FULL, SHOP_FULL, SHOP_EMPTY, OUT, YARD, BROKEN, LOST, WORN }

    private static final class Bottle {
        int brand;
        Place place = Place.EMPTY;
        int shop = -1;

        Bottle copy() {
            Bottle b = new Bottle();
            b.brand = brand;
            b.place = place;
            b.shop = shop;
            return b;
        }
    }

    private static final class World {
        List<Bottle> bottles = new ArrayList<>();
        List<Integer> kinds = new ArrayList<>();
        List<Integer> filledSoFar = new ArrayList<>();
        List<int[]> swaps = new ArrayList<>();
        List<Integer> money = new ArrayList<>();
        List<Integer> crates = new ArrayList<>();
        List<Integer> paidAssociation = new ArrayList<>();
        List<Integer> paidPool = new ArrayList<>();
        List<Integer> sold = new ArrayList<>();
        int[] settings = {8, 15, 25, 150, 6, 20};
        int store;
        int held;
        int forfeited;
        int pool;
        int reason;

        World copy() {
            World w = new World();
            for (Bottle b : bottles) {
                w.bottles.add(b.copy());
            }
            w.kinds.addAll(kinds);
            w.filledSoFar.addAll(filledSoFar);
            for (int[] row : swaps) {
                w.swaps.add(row.clone());
            }
            w.money.addAll(money);
            w.crates.addAll(crates);
            w.paidAssociation.addAll(paidAssociation);
            w.paidPool.addAll(paidPool);
            w.sold.addAll(sold);
            w.settings = settings.clone();
            w.store = store;
            w.held = held;
            w.forfeited = forfeited;
            w.pool = pool;
            w.reason = reason;
            return w;
        }
    }

    private static final String ORDER = "(d[0-7]>[0-5]\\*([1-9]|[1-4][0-9]|50)"
            + "|[srb][0-5]:[0-7]\\*([1-9]|[1-9][0-9]|[1-4][0-9][0-9]|500)"
            + "|c[0-5]:[0-2]\\*([1-9]|[1-4][0-9]|50))";
    private static final Pattern ROW = Pattern.compile(ORDER + "(;" + ORDER + ")*");
    /** Every beginning of a row becomes a row by one of these. */
    private static final String[] TAILS = {
        "", "1", "*1", "0*1", ">0*1", ":0*1", "0>0*1", "0:0*1", "d0>0*1"};

    private World w = new World();
    private final List<World> saved = new ArrayList<>();
    private final StringBuilder buffer = new StringBuilder();

    // ---- what a call needs

    private static void index(boolean right) {
        if (!right) {
            throw new IndexOutOfBoundsException();
        }
    }

    private static void argument(boolean right) {
        if (!right) {
            throw new IllegalArgumentException();
        }
    }

    private static void state(boolean right) {
        if (!right) {
            throw new IllegalStateException();
        }
    }

    private void needsBrand(int brand) {
        index(brand >= 0 && brand < w.kinds.size());
    }

    private void needsShop(int shop) {
        index(shop >= 0 && shop < w.money.size());
    }

    private static boolean within(int v, int from, int to) {
        return v >= from && v <= to;
    }

    private void save() {
        saved.add(w.copy());
        if (saved.size() > 6) {
            saved.remove(0);
        }
    }

    // ---- bottles

    private int many(int brand, Place place, int shop) {
        int n = 0;
        for (Bottle b : w.bottles) {
            if (b.brand == brand && b.place == place && (shop < 0 || b.shop == shop)) {
                n++;
            }
        }
        return n;
    }

    private int manyOfKind(int kind, Place place, int shop) {
        int n = 0;
        for (Bottle b : w.bottles) {
            if (w.kinds.get(b.brand) == kind && b.place == place && (shop < 0 || b.shop == shop)) {
                n++;
            }
        }
        return n;
    }

    private Bottle one(int brand, Place place, int shop) {
        for (Bottle b : w.bottles) {
            if (b.brand == brand && b.place == place && (shop < 0 || b.shop == shop)) {
                return b;
            }
        }
        throw new AssertionError("the model has no such bottle");
    }

    private void move(int brand, Place from, int fromShop, Place to, int toShop) {
        Bottle b = one(brand, from, fromShop);
        b.place = to;
        b.shop = toShop;
    }

    private int deposit(int brand) {
        return w.settings[w.kinds.get(brand)];
    }

    private static void plus(List<Integer> row, int at, int more) {
        row.set(at, row.get(at) + more);
    }

    // ---- brands, shops, crates, settings

    int addBrand(int kind, int bottles) {
        argument(within(kind, 0, 2) && within(bottles, 0, 5000));
        state(w.kinds.size() < 8);
        save();
        int brand = w.kinds.size();
        w.kinds.add(kind);
        w.filledSoFar.add(0);
        w.swaps.add(new int[8]);
        for (int i = 0; i < bottles; i++) {
            Bottle b = new Bottle();
            b.brand = brand;
            w.bottles.add(b);
        }
        return brand;
    }

    int addShop(int money) {
        argument(within(money, 0, 100000));
        state(w.money.size() < 6);
        save();
        w.money.add(money);
        w.crates.add(0);
        w.paidAssociation.add(0);
        w.paidPool.add(0);
        w.sold.add(0);
        return w.money.size() - 1;
    }

    private int cratesInShops() {
        int n = 0;
        for (int c : w.crates) {
            n += c;
        }
        return n;
    }

    int buyCrates(int many) {
        argument(within(many, 1, 500));
        state(w.store + cratesInShops() + many <= 1000);
        save();
        w.store += many;
        return w.store;
    }

    int set(int setting, int value) {
        index(within(setting, 0, 5));
        switch (setting) {
            case 0: case 1: case 2: argument(within(value, 1, 100)); break;
            case 3: argument(within(value, 0, 500)); break;
            case 4: argument(within(value, 0, 100)); break;
            default: argument(within(value, 2, 1000)); break;
        }
        state(setting >= 4 || w.held == 0);
        save();
        int before = w.settings[setting];
        w.settings[setting] = value;
        return before;
    }

    // ---- what is done

    private int wornOf(int brand, int many) {
        int worn = 0;
        for (int i = 1; i <= many; i++) {
            if ((w.filledSoFar.get(brand) + i) % w.settings[5] == 0) {
                worn++;
            }
        }
        return worn;
    }

    int fill(int brand, int many) {
        needsBrand(brand);
        argument(within(many, 1, 5000));
        state(many(brand, Place.EMPTY, -1) >= many);
        save();
        int full = 0;
        for (int i = 0; i < many; i++) {
            plus(w.filledSoFar, brand, 1);
            boolean worn = w.filledSoFar.get(brand) % w.settings[5] == 0;
            move(brand, Place.EMPTY, -1, worn ? Place.WORN : Place.FULL, -1);
            full += worn ? 0 : 1;
        }
        return full;
    }

    int whyNotDeliver(int brand, int shop, int crates) {
        needsBrand(brand);
        needsShop(shop);
        argument(within(crates, 1, 50));
        if (many(brand, Place.FULL, -1) < 12 * crates) {
            return 1;
        }
        if (w.store < crates) {
            return 2;
        }
        int pays = 12 * crates * deposit(brand) + crates * w.settings[3] + crates * w.settings[4];
        return w.money.get(shop) < pays ? 3 : 0;
    }

    int deliver(int brand, int shop, int crates) {
        state(whyNotDeliver(brand, shop, crates) == 0);
        save();
        return deliverNow(brand, shop, crates);
    }

    private int deliverNow(int brand, int shop, int crates) {
        int pays = 0;
        for (int c = 0; c < crates; c++) {
            int deposits = w.settings[3];
            for (int i = 0; i < 12; i++) {
                move(brand, Place.FULL, -1, Place.SHOP_FULL, shop);
                deposits += deposit(brand);
            }
            w.store--;
            plus(w.crates, shop, 1);
            plus(w.money, shop, -deposits - w.settings[4]);
            plus(w.paidAssociation, shop, deposits);
            plus(w.paidPool, shop, w.settings[4]);
            w.held += deposits;
            w.pool += w.settings[4];
            pays += deposits + w.settings[4];
        }
        return pays;
    }

    private int sellReason(int shop, int brand, int many) {
        return many(brand, Place.SHOP_FULL, shop) < many ? 1 : 0;
    }

    private int takeBackReason(int shop, int brand, int many) {
        if (many(brand, Place.OUT, -1) < many) {
            return 1;
        }
        return w.money.get(shop) < many * deposit(brand) ? 3 : 0;
    }

    private int breaksReason(int shop, int brand, int many) {
        return many(brand, Place.SHOP_EMPTY, shop) < many ? 1 : 0;
    }

    private void needsSale(int shop, int brand, int many) {
        needsShop(shop);
        needsBrand(brand);
        argument(within(many, 1, 500));
    }

    int sell(int shop, int brand, int many) {
        needsSale(shop, brand, many);
        state(sellReason(shop, brand, many) == 0);
        save();
        return sellNow(shop, brand, many);
    }

    private int sellNow(int shop, int brand, int many) {
        for (int i = 0; i < many; i++) {
            move(brand, Place.SHOP_FULL, shop, Place.OUT, -1);
            plus(w.money, shop, deposit(brand));
            plus(w.sold, shop, 1);
        }
        return w.money.get(shop);
    }

    int takeBack(int shop, int brand, int many) {
        needsSale(shop, brand, many);
        state(takeBackReason(shop, brand, many) == 0);
        save();
        return takeBackNow(shop, brand, many);
    }

    private int takeBackNow(int shop, int brand, int many) {
        for (int i = 0; i < many; i++) {
            move(brand, Place.OUT, -1, Place.SHOP_EMPTY, shop);
            plus(w.money, shop, -deposit(brand));
            plus(w.sold, shop, -1);
        }
        return w.money.get(shop);
    }

    int breaks(int shop, int brand, int many) {
        needsSale(shop, brand, many);
        state(breaksReason(shop, brand, many) == 0);
        save();
        return breaksNow(shop, brand, many);
    }

    private int breaksNow(int shop, int brand, int many) {
        int due = 0;
        for (int i = 0; i < many; i++) {
            move(brand, Place.SHOP_EMPTY, shop, Place.BROKEN, -1);
            due += deposit(brand);
        }
        w.forfeited += due;
        int gets = due <= w.pool ? due : w.pool;
        w.pool -= gets;
        plus(w.money, shop, gets);
        plus(w.paidPool, shop, -gets);
        return gets;
    }

    int lose(int brand, int many) {
        needsBrand(brand);
        argument(within(many, 1, 5000));
        state(many(brand, Place.OUT, -1) >= many);
        save();
        for (int i = 0; i < many; i++) {
            move(brand, Place.OUT, -1, Place.LOST, -1);
            w.forfeited += deposit(brand);
        }
        return many(brand, Place.OUT, -1);
    }

    int whyNotCollect(int shop, int kind, int crates) {
        needsShop(shop);
        argument(within(kind, 0, 2) && within(crates, 1, 50));
        if (manyOfKind(kind, Place.SHOP_EMPTY, shop) < 12 * crates) {
            return 1;
        }
        return w.crates.get(shop) < crates ? 2 : 0;
    }

    int collect(int shop, int kind, int crates) {
        state(whyNotCollect(shop, kind, crates) == 0);
        save();
        return collectNow(shop, kind, crates);
    }

    private int collectNow(int shop, int kind, int crates) {
        int gets = 0;
        for (int c = 0; c < crates; c++) {
            for (int i = 0; i < 12; i++) {
                move(richest(shop, kind), Place.SHOP_EMPTY, shop, Place.YARD, -1);
                gets += w.settings[kind];
            }
            gets += w.settings[3];
            plus(w.crates, shop, -1);
            w.store++;
        }
        w.held -= gets;
        plus(w.money, shop, gets);
        plus(w.paidAssociation, shop, -gets);
        return gets;
    }

    private int richest(int shop, int kind) {
        int best = -1;
        int most = 0;
        for (int b = w.kinds.size() - 1; b >= 0; b--) {
            int there = many(b, Place.SHOP_EMPTY, shop);
            if (w.kinds.get(b) == kind && there > 0 && there >= most) {
                best = b;
                most = there;
            }
        }
        return best;
    }

    int sort(int kind, int many) {
        argument(within(kind, 0, 2) && within(many, 1, 5000));
        state(manyOfKind(kind, Place.YARD, -1) >= many);
        save();
        int rest = many;
        for (int b = 0; b < w.kinds.size(); b++) {
            while (rest > 0 && w.kinds.get(b) == kind && many(b, Place.YARD, -1) > 0) {
                move(b, Place.YARD, -1, Place.EMPTY, -1);
                rest--;
            }
        }
        return manyOfKind(kind, Place.YARD, -1);
    }

    int swap(int from, int to, int many) {
        needsBrand(from);
        needsBrand(to);
        argument(from != to && w.kinds.get(from).equals(w.kinds.get(to)) && within(many, 1, 5000));
        state(many(from, Place.EMPTY, -1) >= many);
        save();
        for (int i = 0; i < many; i++) {
            one(from, Place.EMPTY, -1).brand = to;
        }
        w.swaps.get(from)[to] += many;
        return w.swaps.get(from)[to] - w.swaps.get(to)[from];
    }

    // ---- texts

    int append(int code) {
        argument(within(code, 33, 126));
        state(buffer.length() < 60);
        buffer.append((char) code);
        return buffer.length();
    }

    int clearBuffer() {
        int n = buffer.length();
        buffer.setLength(0);
        return n;
    }

    private static boolean begins(String start) {
        for (String tail : TAILS) {
            if (ROW.matcher(start + tail).matches()) {
                return true;
            }
        }
        return false;
    }

    int firstError() {
        for (int n = 1; n <= buffer.length(); n++) {
            if (!begins(buffer.substring(0, n))) {
                return n - 1;
            }
        }
        return buffer.length();
    }

    int run() {
        argument(ROW.matcher(buffer).matches());
        save();
        String[] orders = buffer.toString().split(";");
        buffer.setLength(0);
        w.reason = 0;
        int done = 0;
        Pattern parts = Pattern.compile("(.)(.).(.).(.*)");
        for (String order : orders) {
            Matcher m = parts.matcher(order);
            argument(m.matches());
            int first = Integer.parseInt(m.group(2));
            int second = Integer.parseInt(m.group(3));
            int number = Integer.parseInt(m.group(4));
            w.reason = carryOut(m.group(1), first, second, number);
            if (w.reason != 0) {
                break;
            }
            done++;
        }
        return done;
    }

    private int carryOut(String letter, int first, int second, int number) {
        boolean brandFirst = letter.equals("d");
        int shop = brandFirst ? second : first;
        int brand = brandFirst ? first : second;
        if (shop >= w.money.size() || !letter.equals("c") && brand >= w.kinds.size()) {
            return 4;
        }
        int reason = letter.equals("d") ? whyNotDeliver(brand, shop, number)
                : letter.equals("c") ? whyNotCollect(shop, second, number)
                : letter.equals("s") ? sellReason(shop, brand, number)
                : letter.equals("r") ? takeBackReason(shop, brand, number)
                : breaksReason(shop, brand, number);
        if (reason == 0) {
            switch (letter) {
                case "d": deliverNow(brand, shop, number); break;
                case "c": collectNow(shop, second, number); break;
                case "s": sellNow(shop, brand, number); break;
                case "r": takeBackNow(shop, brand, number); break;
                default: breaksNow(shop, brand, number); break;
            }
        }
        return reason;
    }

    int undo() {
        state(!saved.isEmpty());
        w = saved.remove(saved.size() - 1);
        return saved.size();
    }

    // ---- what there is

    int brand(int brand, int what) {
        needsBrand(brand);
        argument(within(what, 0, 11));
        if (what == 0) {
            return w.kinds.get(brand);
        }
        if (what == 10) {
            return w.filledSoFar.get(brand);
        }
        if (what == 11) {
            int n = 0;
            for (int other = 0; other < w.swaps.size(); other++) {
                n += w.swaps.get(brand)[other] - w.swaps.get(other)[brand];
            }
            return n;
        }
        return many(brand, Place.values()[what - 1], -1);
    }

    int shop(int shop, int what) {
        needsShop(shop);
        argument(within(what, 0, 6) || within(what, 10, 17) || within(what, 20, 27));
        switch (what) {
            case 0: return w.money.get(shop);
            case 1: return w.crates.get(shop);
            case 2: return inShop(shop, Place.SHOP_FULL);
            case 3: return inShop(shop, Place.SHOP_EMPTY);
            case 4: return w.paidAssociation.get(shop);
            case 5: return w.paidPool.get(shop);
            case 6: return w.sold.get(shop);
            default: return many(what % 10, what < 20 ? Place.SHOP_FULL : Place.SHOP_EMPTY, shop);
        }
    }

    private int inShop(int shop, Place place) {
        int n = 0;
        for (Bottle b : w.bottles) {
            n += b.shop == shop && b.place == place ? 1 : 0;
        }
        return n;
    }

    private int everywhere(Place place) {
        int n = 0;
        for (Bottle b : w.bottles) {
            n += b.place == place ? 1 : 0;
        }
        return n;
    }

    int count(int what) {
        argument(within(what, 0, 10));
        switch (what) {
            case 0: return w.kinds.size();
            case 1: return w.money.size();
            case 2: return w.store;
            case 3: return cratesInShops();
            case 4: return w.held;
            case 5: return w.forfeited;
            case 6: return w.pool;
            case 7: return everywhere(Place.OUT);
            case 8: return everywhere(Place.YARD);
            case 9: return w.reason;
            default: return saved.size();
        }
    }

    int setting(int setting) {
        index(within(setting, 0, 5));
        return w.settings[setting];
    }

    // ---- what would be

    int mostCrates(int brand, int shop) {
        needsBrand(brand);
        needsShop(shop);
        int most = 0;
        for (int crates = 1; crates <= 50; crates++) {
            if (whyNotDeliver(brand, shop, crates) == 0) {
                most = crates;
            }
        }
        return most;
    }

    int collected(int shop, int brand, int crates) {
        needsShop(shop);
        needsBrand(brand);
        argument(within(crates, 1, 50));
        int kind = w.kinds.get(brand);
        if (whyNotCollect(shop, kind, crates) != 0) {
            return -1;
        }
        World before = w;
        w = w.copy();
        int there = many(brand, Place.SHOP_EMPTY, shop);
        collectNow(shop, kind, crates);
        int left = many(brand, Place.SHOP_EMPTY, shop);
        w = before;
        return there - left;
    }

    int filled(int brand, int many) {
        needsBrand(brand);
        argument(within(many, 1, 5000));
        return many - wornOf(brand, many);
    }

    int bestShop(int kind) {
        argument(within(kind, 0, 2));
        for (int crates = 50; crates >= 1; crates--) {
            for (int shop = 0; shop < w.money.size(); shop++) {
                if (whyNotCollect(shop, kind, crates) == 0) {
                    return shop;
                }
            }
        }
        return -1;
    }

    double goneShare() {
        int gone = everywhere(Place.BROKEN) + everywhere(Place.LOST) + everywhere(Place.WORN);
        return w.bottles.isEmpty() ? 0.0 : (double) gone / w.bottles.size();
    }

    long digest() {
        List<Long> values = new ArrayList<>();
        for (int what = 0; what <= 10; what++) {
            values.add((long) count(what));
        }
        for (int s : w.settings) {
            values.add((long) s);
        }
        for (int b = 0; b < w.kinds.size(); b++) {
            for (int what = 0; what <= 11; what++) {
                values.add((long) brand(b, what));
            }
            values.add((long) filled(b, 25));
            for (int s = 0; s < w.money.size(); s++) {
                values.add((long) mostCrates(b, s));
            }
        }
        for (int s = 0; s < w.money.size(); s++) {
            for (int what : new int[] {0, 1, 2, 3, 4, 5, 6, 10, 11, 12, 13, 14, 15, 16, 17,
                                       20, 21, 22, 23, 24, 25, 26, 27}) {
                values.add((long) shop(s, what));
            }
        }
        for (int kind = 0; kind <= 2; kind++) {
            values.add((long) bestShop(kind));
        }
        for (int s = 0; s < w.money.size(); s++) {
            for (int b = 0; b < w.kinds.size(); b++) {
                values.add((long) collected(s, b, 1));
            }
        }
        values.add(Double.doubleToLongBits(goneShare()));
        values.add((long) buffer.length());
        for (int i = 0; i < buffer.length(); i++) {
            values.add((long) buffer.charAt(i));
        }
        long hash = 2411;
        for (long v : values) {
            hash = 31 * hash + v;
        }
        return hash;
    }

    /** What the deposits must come to: those of all bottles and crates that are not at the brewery or in the yard. */
    long depositsDue() {
        long due = (long) cratesInShops() * w.settings[3];
        for (Bottle b : w.bottles) {
            if (Arrays.asList(Place.SHOP_FULL, Place.SHOP_EMPTY, Place.OUT, Place.BROKEN, Place.LOST)
                    .contains(b.place)) {
                due += deposit(b.brand);
            }
        }
        return due;
    }
}
