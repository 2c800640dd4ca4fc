import java.util.Map;
import java.util.TreeMap;

/** What is done changes what the document says, and nothing else: for each brand and each shop. */
public final class EdgesAccountsTest {
    private static final int BRANDS = 6;
    private static final int SHOPS = 4;
    private static final int[] DEPOSIT = {8, 15, 25};
    private static final int CRATE_DEPOSIT = 150;
    private static final int POOL_PART = 6;

    private final Checks checks = new Checks();
    private final Edges edges = new Edges(checks);

    private EdgesAccountsTest() {
    }

    public static void main(String[] args) {
        EdgesAccountsTest test = new EdgesAccountsTest();
        test.addBrand();
        test.addShop();
        test.buyCrates();
        test.set();
        test.fill();
        test.deliver();
        test.sell();
        test.takeBack();
        test.breaks();
        test.lose();
        test.collect();
        test.sort();
        test.swap();
        test.checks.end();
    }

    // ---- all numbers, and what changes of them

    private static Map<String, Integer> numbersOf(BottleLoop x) {
        Map<String, Integer> numbers = new TreeMap<>();
        for (int what = 0; what <= 10; what++) {
            numbers.put("count " + what, x.count(what));
        }
        for (int setting = 0; setting <= 5; setting++) {
            numbers.put("setting " + setting, x.setting(setting));
        }
        for (int brand = 0; brand < x.count(0); brand++) {
            for (int what = 0; what <= 11; what++) {
                numbers.put("brand " + brand + " " + what, x.brand(brand, what));
            }
        }
        for (int shop = 0; shop < x.count(1); shop++) {
            for (int what = 0; what <= 27; what++) {
                if (what <= 6 || what >= 10 && what <= 17 || what >= 20) {
                    numbers.put("shop " + shop + " " + what, x.shop(shop, what));
                }
            }
        }
        return numbers;
    }

    /** Numbers that were not there before count as 0. */
    private static Map<String, Integer> changes(BottleLoop x, Edges.Act act) {
        Map<String, Integer> before = numbersOf(x);
        act.on(x);
        Map<String, Integer> changes = new TreeMap<>();
        for (Map.Entry<String, Integer> number : numbersOf(x).entrySet()) {
            add(changes, number.getKey(), number.getValue() - before.getOrDefault(number.getKey(), 0));
        }
        return changes;
    }

    private static void add(Map<String, Integer> changes, String number, int change) {
        if (change != 0) {
            changes.put(number, change);
        }
    }

    /** Due is a row of names of numbers, each followed by its change. */
    private void changed(String what, Edges.Scene scene, Edges.Act act, Object... due) {
        Map<String, Integer> changes = new TreeMap<>();
        for (int i = 0; i + 1 < due.length; i += 2) {
            add(changes, (String) due[i], (Integer) due[i + 1]);
        }
        checks.same("what changes by " + what, changes(scene.make(), act), changes);
    }

    private static int kindOf(int brand) {
        return (brand + 2) % 3;
    }

    private static int depositOf(int brand) {
        return DEPOSIT[kindOf(brand)];
    }

    private interface Each {
        void check(int brand, int shop, String b, String s);
    }

    private static void forEach(Each each) {
        for (int brand = 0; brand < BRANDS; brand++) {
            for (int shop = 0; shop < SHOPS; shop++) {
                each.check(brand, shop, "brand " + brand + " ", "shop " + shop + " ");
            }
        }
    }

    // ---- promises 2 to 5

    private void addBrand() {
        edges.sentence("promise 2", "adds a brand");
        changed("a brand", Scenes::varied, x -> x.addBrand(2, 77), "count 0", 1, "brand 6 0", 2, "brand 6 1", 77);
    }

    private void addShop() {
        edges.sentence("promise 3", "adds a shop");
        changed("a shop", Scenes::varied, x -> x.addShop(77), "count 1", 1, "shop 4 0", 77);
    }

    private void buyCrates() {
        edges.sentence("promise 4", "buys crates for the store");
        changed("crates", Scenes::varied, x -> x.buyCrates(77), "count 2", 77);
    }

    private void set() {
        edges.sentence("promise 5", "changes a setting");
        for (int setting = 0; setting <= 5; setting++) {
            int s = setting;
            int first = new BottleLoop().setting(s);
            changed("a setting", BottleLoop::new, x -> x.set(s, 77), "setting " + s, 77 - first, "count 10", 1);
        }
    }

    // ---- promises 6 to 14

    private void fill() {
        edges.sentence("fill", "empty bottles at the brewery become full, but for those that are worn out");
        for (int brand = 0; brand < BRANDS; brand++) {
            int n = brand;
            String b = "brand " + brand + " ";
            changed("fill", Scenes::varied, x -> x.fill(n, 41),
                    b + 1, -41, b + 2, 39, b + 9, 2, b + 10, 41);
        }
    }

    private void deliver() {
        edges.sentence("deliver", "the shop pays deposits for bottles and crates, and setting 4 for each crate");
        forEach((brand, shop, b, s) -> {
            int deposits = 2 * (12 * depositOf(brand) + CRATE_DEPOSIT);
            int pool = 2 * POOL_PART;
            changed("deliver", Scenes::varied, x -> x.deliver(brand, shop, 2),
                    b + 2, -24, b + 3, 24, s + 0, -deposits - pool, s + 1, 2, s + 2, 24, s + 4, deposits, s + 5, pool,
                    s + (10 + brand), 24, "count 2", -2, "count 3", 2, "count 4", deposits, "count 6", pool);
            edges.answers("deliver()", deposits + pool, Scenes::varied, x -> x.deliver(brand, shop, 2));
        });
    }

    private void sell() {
        edges.sentence("sell", "the shop gets the deposits from households");
        forEach((brand, shop, b, s) -> {
            int deposits = 3 * depositOf(brand);
            changed("sell", Scenes::varied, x -> x.sell(shop, brand, 3),
                    b + 3, -3, b + 5, 3, s + 0, deposits, s + 2, -3, s + 6, 3, s + (10 + brand), -3, "count 7", 3);
            edges.answers("sell()", true, Scenes::varied, x -> x.sell(shop, brand, 3) == x.shop(shop, 0));
        });
    }

    private void takeBack() {
        edges.sentence("take back", "the shop pays the deposits to households");
        forEach((brand, shop, b, s) -> {
            int deposits = 2 * depositOf(brand);
            changed("take back", Scenes::varied, x -> x.takeBack(shop, brand, 2),
                    b + 4, 2, b + 5, -2, s + 0, -deposits, s + 3, 2, s + 6, -2, s + (20 + brand), 2, "count 7", -2);
            edges.answers("takeBack()", true, Scenes::varied, x -> x.takeBack(shop, brand, 2) == x.shop(shop, 0));
        });
    }

    private void breaks() {
        edges.sentence("break", "the shop gets the deposits out of the pool; what the association holds is forfeited");
        forEach((brand, shop, b, s) -> {
            int deposits = 3 * depositOf(brand);
            changed("break", Scenes::varied, x -> x.breaks(shop, brand, 3),
                    b + 4, -3, b + 7, 3, s + 0, deposits, s + 3, -3, s + 5, -deposits, s + (20 + brand), -3,
                    "count 5", deposits, "count 6", -deposits);
            edges.answers("breaks()", deposits, Scenes::varied, x -> x.breaks(shop, brand, 3));
        });
    }

    private void lose() {
        edges.sentence("lose", "bottles that are out are lost; their deposits are forfeited, too");
        for (int brand = 0; brand < BRANDS; brand++) {
            int n = brand;
            String b = "brand " + brand + " ";
            changed("lose", Scenes::varied, x -> x.lose(n, 2),
                    b + 5, -2, b + 8, 2, "count 5", 2 * depositOf(brand), "count 7", -2);
        }
    }

    /** Of two brands of a kind, so many of the lower one are among the first so many that are taken one by one. */
    private static int takenOfLower(int lower, int higher, int many) {
        int left = lower;
        int leftOfHigher = higher;
        for (int i = 0; i < many; i++) {
            if (left >= leftOfHigher) {
                left--;
            } else {
                leftOfHigher--;
            }
        }
        return lower - left;
    }

    private void collect() {
        edges.sentence("collect", "crates to the store, bottles to the yard; the association pays the deposits");
        for (int kind = 0; kind <= 2; kind++) {
            for (int shop = 0; shop < SHOPS; shop++) {
                collectOf(kind, shop, 1);
                collectOf(kind, shop, 2);
            }
        }
    }

    private void collectOf(int kind, int shop, int crates) {
        int lower = (kind + 1) % 3;
        int higher = lower + 3;
        int deposits = crates * (12 * DEPOSIT[kind] + CRATE_DEPOSIT);
        BottleLoop y = Scenes.varied();
        int taken = takenOfLower(y.shop(shop, 20 + lower), y.shop(shop, 20 + higher), 12 * crates);
        int rest = 12 * crates - taken;
        String s = "shop " + shop + " ";
        changed("collect", Scenes::varied, x -> x.collect(shop, kind, crates),
                "brand " + lower + " 4", -taken, "brand " + lower + " 6", taken,
                "brand " + higher + " 4", -rest, "brand " + higher + " 6", rest,
                s + 0, deposits, s + 1, -crates, s + 3, -12 * crates, s + 4, -deposits,
                s + (20 + lower), -taken, s + (20 + higher), -rest,
                "count 2", crates, "count 3", -crates, "count 4", -deposits, "count 8", 12 * crates);
        edges.answers("collect()", deposits, Scenes::varied, x -> x.collect(shop, kind, crates));
        edges.answers("collected(), the lower", taken, Scenes::varied, x -> x.collected(shop, lower, crates));
        edges.answers("collected(), the higher", rest, Scenes::varied, x -> x.collected(shop, higher, crates));
    }

    /** From each shop and of each kind a crate is in the yard. */
    private static BottleLoop yard() {
        BottleLoop x = Scenes.varied();
        for (int kind = 0; kind <= 2; kind++) {
            for (int shop = 0; shop < SHOPS; shop++) {
                x.collect(shop, kind, 1);
            }
        }
        return x;
    }

    private void sort() {
        edges.sentence("sort", "bottles in the yard come to their breweries, those of the lowest brand first");
        for (int kind = 0; kind <= 2; kind++) {
            for (int many = 1; many <= 48; many++) {
                sortOf(kind, many);
            }
        }
    }

    private void sortOf(int kind, int many) {
        int lower = (kind + 1) % 3;
        int higher = lower + 3;
        int sorted = Math.min(many, yard().brand(lower, 6));
        changed("sort " + many, EdgesAccountsTest::yard, x -> x.sort(kind, many),
                "brand " + lower + " 1", sorted, "brand " + lower + " 6", -sorted,
                "brand " + higher + " 1", many - sorted, "brand " + higher + " 6", sorted - many, "count 8", -many);
        edges.answers("sort()", 48 - many, EdgesAccountsTest::yard, x -> x.sort(kind, many));
    }

    private void swap() {
        edges.sentence("swap", "empty bottles of a brand become empty bottles of another brand");
        for (int brand = 0; brand < BRANDS; brand++) {
            int from = brand;
            int to = (brand + 3) % BRANDS;
            changed("swap", Scenes::varied, x -> x.swap(from, to, 9),
                    "brand " + from + " 1", -9, "brand " + to + " 1", 9,
                    "brand " + from + " 11", 9, "brand " + to + " 11", -9);
        }
    }
}
