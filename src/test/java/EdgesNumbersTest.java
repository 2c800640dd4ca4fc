/** The boundary cases of promises 20 to 23, a test for each sentence that names one. */
public final class EdgesNumbersTest {
    private static final int[] SHOP_NUMBERS = {
        0, 1, 2, 3, 4, 5, 6, 10, 11, 12, 13, 14, 15, 16, 17, 20, 21, 22, 23, 24, 25, 26, 27};

    private final Checks checks = new Checks();
    private final Edges edges = new Edges(checks);

    private EdgesNumbersTest() {
    }

    public static void main(String[] args) {
        EdgesNumbersTest test = new EdgesNumbersTest();
        test.brandBrand();
        test.brandWhat();
        test.brandWithoutAnything();
        test.brandEveryPlace();
        test.brandOrder();
        test.shopShop();
        test.shopWhat();
        test.shopWithoutAnything();
        test.shopBrandsThatThereAreNot();
        test.shopBelowZero();
        test.shopOrder();
        test.countWhat();
        test.countFull();
        test.setting();
        test.checks.end();
    }

    // ---- promise 20

    private void brandBrand() {
        edges.sentence("promise 20", "IndexOutOfBoundsException if there is no such brand");
        edges.brandsThatThereAre((x, brand) -> x.brand(brand, 0));
    }

    private void brandWhat() {
        edges.sentence("promise 20", "IllegalArgumentException if what is not 0 to 11");
        edges.argumentFrom(0, 11, () -> Scenes.busy(2, 2), (x, what) -> x.brand(1, what));
    }

    private void brandWithoutAnything() {
        edges.sentence("promise 20", "of a new brand without bottles there is nothing but its kind");
        for (int what = 1; what <= 11; what++) {
            int w = what;
            edges.answers("brand(0, " + w + ")", 0, BottleLoop::new, x -> x.brand(x.addBrand(2, 0), w));
        }
        edges.answers("brand(0, 0)", 2, BottleLoop::new, x -> x.brand(x.addBrand(2, 0), 0));
    }

    private void brandEveryPlace() {
        edges.sentence("terms", "each bottle of a brand is at one of these places");
        BottleLoop x = Scenes.busy(3, 2);
        x.collect(0, 0, 2);
        x.collect(1, 0, 1);
        x.sort(0, 20);
        x.lose(1, 4);
        x.breaks(0, 2, 3);
        x.swap(0, 1, 15);
        for (int brand = 0; brand < 3; brand++) {
            int bottles = 0;
            for (int what = 1; what <= 9; what++) {
                bottles += x.brand(brand, what);
            }
            checks.same("bottles of brand " + brand, bottles + x.brand(brand, 11), 200);
        }
    }

    private void brandOrder() {
        edges.sentence("promise 20", "of several exceptions the one that is named first");
        for (int what : new int[] {-1, 12}) {
            for (int brand : new int[] {-1, 2}) {
                edges.refusesIndex(brand + ", " + what, () -> Scenes.busy(2, 2), x -> x.brand(brand, what));
            }
        }
    }

    // ---- promise 21

    private void shopShop() {
        edges.sentence("promise 21", "IndexOutOfBoundsException if there is no such shop");
        edges.shopsThatThereAre((x, shop) -> x.shop(shop, 0));
    }

    private void shopWhat() {
        edges.sentence("promise 21", "IllegalArgumentException if what is not 0 to 6, 10 to 17 or 20 to 27");
        edges.argumentFrom(0, 6, Scenes::empty, (x, what) -> x.shop(1, what));
        edges.argumentFrom(10, 17, Scenes::empty, (x, what) -> x.shop(1, what));
        edges.argumentFrom(20, 27, Scenes::empty, (x, what) -> x.shop(1, what));
        for (int what : new int[] {8, 19, 29, 30}) {
            edges.refusesArgument("" + what, Scenes::empty, x -> x.shop(1, what));
        }
    }

    private void shopWithoutAnything() {
        edges.sentence("promise 21", "a new shop has nothing but its money");
        for (int what : SHOP_NUMBERS) {
            edges.answers("shop(0, " + what + ")", what == 0 ? 100000 : 0, BottleLoop::new,
                    x -> x.shop(x.addShop(100000), what));
        }
    }

    private void shopBrandsThatThereAreNot() {
        edges.sentence("promise 21", "its bottles of the brands 0 to 7 (0 for brands that there are not)");
        for (int brands : new int[] {0, 1, 7, 8}) {
            for (int shop = 0; shop <= 5; shop++) {
                ofEachBrand(Scenes.busy(brands, 6), shop, brands);
            }
        }
    }

    private void ofEachBrand(BottleLoop x, int shop, int brands) {
        for (int brand = 0; brand <= 7; brand++) {
            checks.same("full of brand " + brand, x.shop(shop, 10 + brand), brand < brands ? 4 : 0);
            checks.same("empty of brand " + brand, x.shop(shop, 20 + brand), brand < brands ? 14 : 0);
        }
        checks.same("full of all brands", x.shop(shop, 2), 4 * brands);
        checks.same("empty of all brands", x.shop(shop, 3), 14 * brands);
    }

    private void shopBelowZero() {
        edges.sentence("promise 21", "less what it got, or took back: also below 0");
        BottleLoop x = Scenes.greatSale();
        x.takeBack(1, 0, 12);
        checks.same("sold less taken back", x.shop(1, 6), -12);
        BottleLoop y = Scenes.returned(24);
        y.undo();
        y.addBrand(1, 12);
        y.buyCrates(1);
        y.fill(1, 12);
        y.deliver(1, 1, 1);
        y.takeBack(1, 0, 24);
        y.breaks(1, 0, 12);
        checks.same("paid into the pool less what it got", y.shop(1, 5), 6 - 18);
        y.collect(1, 0, 1);
        checks.same("paid to the association less what it got", y.shop(1, 4), 330 - 246);
        BottleLoop z = dearBottles();
        z.collect(1, 1, 1);
        checks.same("paid to the association, by other bottles", z.shop(1, 4), 12 + 10 - 1200 - 10);
    }

    /** Shop 1 has paid for a crate of cheap bottles, and has dear ones back that shop 0 has sold. */
    private static BottleLoop dearBottles() {
        BottleLoop x = new BottleLoop();
        x.set(0, 1);
        x.set(1, 100);
        x.set(3, 10);
        x.addBrand(0, 12);
        x.addBrand(1, 12);
        x.addShop(5000);
        x.addShop(5000);
        x.buyCrates(2);
        x.fill(0, 12);
        x.fill(1, 12);
        x.deliver(0, 1, 1);
        x.deliver(1, 0, 1);
        x.sell(0, 1, 12);
        x.takeBack(1, 1, 12);
        return x;
    }

    private void shopOrder() {
        edges.sentence("promise 21", "of several exceptions the one that is named first");
        for (int what : new int[] {-1, 7, 9, 18, 28}) {
            for (int shop : new int[] {-1, 2}) {
                edges.refusesIndex(shop + ", " + what, () -> Scenes.busy(2, 2), x -> x.shop(shop, what));
            }
        }
    }

    // ---- promise 22

    private void countWhat() {
        edges.sentence("promise 22", "IllegalArgumentException if what is not 0 to 10");
        edges.argumentFrom(0, 10, () -> Scenes.busy(2, 2), BottleLoop::count);
        edges.argumentFrom(0, 10, BottleLoop::new, BottleLoop::count);
    }

    private void countFull() {
        edges.sentence("promise 22", "brands, shops, crates, bottles that are out and in the yard, saved states");
        BottleLoop x = Scenes.busy(8, 6);
        int[] due = {8, 6, 506 - 96, 96};
        for (int what = 0; what < due.length; what++) {
            checks.same("count(" + what + ")", x.count(what), due[what]);
        }
        checks.same("out", x.count(7), 8 * 6 * 6);
        checks.same("in the yard", x.count(8), 0);
        checks.same("saved", x.count(10), 6);
        for (int shop = 0; shop < 6; shop++) {
            x.collect(shop, 0, 9);
        }
        checks.same("in the yard then", x.count(8), 6 * 108);
        checks.same("crates in the store", x.count(2), 506 - 96 + 54);
        checks.same("crates in shops", x.count(3), 96 - 54);
    }

    // ---- promise 23

    private void setting() {
        edges.sentence("promise 23", "setting: 0 to 5");
        edges.indexFrom(0, 5, BottleLoop::new, BottleLoop::setting);
    }
}
