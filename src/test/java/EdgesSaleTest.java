/** The boundary cases of promises 6 to 10, a test for each sentence that names one. */
public final class EdgesSaleTest {
    private final Checks checks = new Checks();
    private final Edges edges = new Edges(checks);

    private EdgesSaleTest() {
    }

    public static void main(String[] args) {
        EdgesSaleTest test = new EdgesSaleTest();
        test.fill();
        test.deliver();
        test.sell();
        test.takeBack();
        test.breaks();
        test.checks.end();
    }

    // ---- promise 6

    private void fill() {
        fillBrand();
        fillMany();
        fillReason();
        fillWearsAtAMultiple();
        fillWearsByAllSettings();
        fillWearsOfEachBrand();
        fillWearsByTheSettingThen();
        fillOrder();
    }

    private void fillBrand() {
        edges.sentence("promise 6", "IndexOutOfBoundsException if there is no such brand");
        edges.brandsThatThereAre((x, brand) -> x.fill(brand, 1));
    }

    private void fillMany() {
        edges.sentence("promise 6", "many: 1 to 5000");
        edges.argumentFrom(1, 5000, Scenes::great, (x, many) -> x.fill(1, many));
    }

    private void fillReason() {
        edges.sentence("promise 6", "IllegalStateException if there is a reason against it: empty bottles there");
        edges.answers("all of 100", 95, Scenes::empty, x -> x.fill(0, 100));
        edges.refusesState("101 of 100", Scenes::empty, x -> x.fill(0, 101));
        edges.refusesState("101 of 100, with others of the kind", () -> Scenes.busy(8, 1), x -> x.fill(7, 21));
        edges.refusesState("one of none, all are full", Scenes::great, x -> x.fill(0, 1));
        edges.refusesState("one of a brand without bottles", () -> Scenes.stocked(0, 0, 0), x -> x.fill(0, 1));
    }

    private static BottleLoop wears(int setting, int before) {
        BottleLoop x = new BottleLoop();
        x.set(5, setting);
        x.addBrand(0, 5000);
        x.addBrand(0, 5000);
        if (before > 0) {
            x.fill(0, before);
        }
        return x;
    }

    private void fillWearsAtAMultiple() {
        edges.sentence("fill", "comes to a multiple of setting 5, one bottle less becomes full");
        edges.answers("1 to 19", 19, () -> wears(20, 0), x -> x.fill(0, 19));
        edges.answers("1 to 20", 19, () -> wears(20, 0), x -> x.fill(0, 20));
        edges.answers("20", 0, () -> wears(20, 19), x -> x.fill(0, 1));
        edges.answers("20 and 21", 1, () -> wears(20, 19), x -> x.fill(0, 2));
        edges.answers("21", 1, () -> wears(20, 20), x -> x.fill(0, 1));
        edges.answers("21 to 39", 19, () -> wears(20, 20), x -> x.fill(0, 19));
        edges.answers("20 to 39", 19, () -> wears(20, 19), x -> x.fill(0, 20));
        edges.answers("20 to 40", 19, () -> wears(20, 19), x -> x.fill(0, 21));
        edges.answers("worn by 39", 1, () -> wears(20, 39), x -> x.brand(0, 9));
        edges.answers("worn by 40", 2, () -> wears(20, 40), x -> x.brand(0, 9));
        edges.answers("filled, with the worn ones", 40, () -> wears(20, 40), x -> x.brand(0, 10));
        edges.answers("full, without them", 38, () -> wears(20, 40), x -> x.brand(0, 2));
    }

    private void fillWearsByAllSettings() {
        edges.sentence("settings", "how many fillings wear out one bottle, 2 to 1000");
        edges.answers("1st of 2", 1, () -> wears(2, 0), x -> x.fill(0, 1));
        edges.answers("2nd of 2", 0, () -> wears(2, 1), x -> x.fill(0, 1));
        edges.answers("1st to 5000th of 2", 2500, () -> wears(2, 0), x -> x.fill(0, 5000));
        edges.answers("1st to 999th of 1000", 999, () -> wears(1000, 0), x -> x.fill(0, 999));
        edges.answers("1000th of 1000", 0, () -> wears(1000, 999), x -> x.fill(0, 1));
        edges.answers("1st to 5000th of 1000", 4995, () -> wears(1000, 0), x -> x.fill(0, 5000));
    }

    private void fillWearsOfEachBrand() {
        edges.sentence("fill", "the number of bottles of the brand that were filled so far");
        edges.answers("the first of another brand", 1, () -> wears(20, 19), x -> x.fill(1, 1));
        edges.answers("the next of this one", 0, () -> {
            BottleLoop x = wears(20, 19);
            x.fill(1, 20);
            return x;
        }, x -> x.fill(0, 1));
    }

    private void fillWearsByTheSettingThen() {
        edges.sentence("fill", "setting 5 is the one that holds when bottles are filled");
        BottleLoop x = wears(20, 19);
        x.set(5, 2);
        checks.answers("the 20th, of 2", 0, () -> x.fill(0, 1));
        x.set(5, 7);
        checks.answers("21st to 23rd, of 7", 2, () -> x.fill(0, 3));
    }

    private void fillOrder() {
        edges.sentence("promise 6", "of several exceptions the one that is named first");
        edges.firstNamed("fill", Scenes::empty, (x, v) -> x.fill(v[0], v[1]),
                Edges.index(0, -1, 3), Edges.argument(101, 0, 5001));
    }

    // ---- promise 7

    private void deliver() {
        deliverBrand();
        deliverShop();
        deliverCrates();
        deliverBottles();
        deliverStore();
        deliverMoney();
        deliverDeposits();
        deliverOrder();
    }

    private void deliverBrand() {
        edges.sentence("promise 7", "IndexOutOfBoundsException if there is no such brand");
        edges.brandsThatThereAre((x, brand) -> x.deliver(brand, 0, 1));
    }

    private void deliverShop() {
        edges.sentence("promise 7", "IndexOutOfBoundsException if there is no such shop");
        edges.shopsThatThereAre((x, shop) -> x.deliver(0, shop, 1));
    }

    private void deliverCrates() {
        edges.sentence("promise 7", "crates: 1 to 50");
        edges.argumentFrom(1, 50, Scenes::great, (x, crates) -> x.deliver(0, 0, crates));
    }

    private void deliverBottles() {
        edges.sentence("promise 7", "reason 1: each crate with 12 full bottles");
        edges.answers("12 bottles", 252, () -> Scenes.stocked(12, 9, 5000), x -> x.deliver(0, 0, 1));
        edges.refusesState("11 bottles", () -> Scenes.stocked(11, 9, 5000), x -> x.deliver(0, 0, 1));
        edges.refusesState("no bottles", () -> Scenes.stocked(0, 9, 5000), x -> x.deliver(0, 0, 1));
        edges.answers("36 bottles", 756, () -> Scenes.stocked(36, 9, 5000), x -> x.deliver(0, 0, 3));
        edges.refusesState("35 bottles", () -> Scenes.stocked(35, 9, 5000), x -> x.deliver(0, 0, 3));
        edges.answers("all of 600", 12600, () -> Scenes.stocked(600, 50, 50000), x -> x.deliver(0, 0, 50));
        edges.refusesState("one less", () -> Scenes.stocked(599, 50, 50000), x -> x.deliver(0, 0, 50));
        edges.refusesState("empty ones", Scenes::empty, x -> x.deliver(0, 0, 1));
    }

    private void deliverStore() {
        edges.sentence("promise 7", "reason 2: the crates out of the store");
        edges.answers("all crates", 1260, () -> Scenes.stocked(60, 5, 5000), x -> x.deliver(0, 0, 5));
        edges.refusesState("one crate less", () -> Scenes.stocked(60, 4, 5000), x -> x.deliver(0, 0, 5));
        edges.refusesState("no crates", () -> Scenes.stocked(60, 0, 5000), x -> x.deliver(0, 0, 1));
        edges.answers("none is left", 0, () -> Scenes.stocked(60, 5, 5000), x -> {
            x.deliver(0, 0, 5);
            return x.count(2);
        });
    }

    private void deliverMoney() {
        edges.sentence("promise 7", "reason 3: the shop has not enough money");
        edges.answers("all of its money", 252, () -> Scenes.stocked(60, 5, 252), x -> x.deliver(0, 0, 1));
        edges.refusesState("one less", () -> Scenes.stocked(60, 5, 251), x -> x.deliver(0, 0, 1));
        edges.answers("all of its money for 5", 1260, () -> Scenes.stocked(60, 5, 1260), x -> x.deliver(0, 0, 5));
        edges.refusesState("one less for 5", () -> Scenes.stocked(60, 5, 1259), x -> x.deliver(0, 0, 5));
        edges.refusesState("without money", () -> Scenes.stocked(60, 5, 0), x -> x.deliver(0, 0, 1));
        edges.answers("none is left", 0, () -> Scenes.stocked(60, 5, 1260), x -> {
            x.deliver(0, 0, 5);
            return x.shop(0, 0);
        });
    }

    private void deliverDeposits() {
        edges.sentence("promise 7", "returns what the shop pays: deposits by the kind, and setting 4 for each crate");
        for (int kind = 0; kind <= 2; kind++) {
            int k = kind;
            edges.answers("least", 50 * 12, () -> Scenes.priced(k, 1, 0, 0), x -> x.deliver(0, 0, 50));
            edges.answers("most", 50 * (1200 + 500 + 100), () -> Scenes.priced(k, 100, 500, 100),
                    x -> x.deliver(0, 0, 50));
            edges.answers("held", 50 * (1200 + 500), () -> Scenes.priced(k, 100, 500, 100), x -> {
                x.deliver(0, 0, 50);
                return x.count(4);
            });
            edges.answers("pool", 50 * 100, () -> Scenes.priced(k, 100, 500, 100), x -> {
                x.deliver(0, 0, 50);
                return x.count(6);
            });
        }
    }

    private void deliverOrder() {
        edges.sentence("promise 7", "of several exceptions the one that is named first");
        edges.firstNamed("deliver", Scenes::empty, (x, v) -> x.deliver(v[0], v[1], v[2]),
                Edges.index(0, -1, 3), Edges.index(1, -1, 2), Edges.argument(1, 0, 51));
    }

    // ---- promise 8

    /** Shop 0 has 24 full bottles of brand 0; the other two brands and shops have some, too. */
    private static BottleLoop onSale() {
        return Scenes.delivered();
    }

    private void sell() {
        sellShop();
        sellBrand();
        sellMany();
        sellReason();
        sellAnswer();
        sellOrder();
    }

    private void sellShop() {
        edges.sentence("promise 8", "IndexOutOfBoundsException if there is no such shop");
        edges.shopsThatThereAre((x, shop) -> x.sell(shop, 0, 1));
    }

    private void sellBrand() {
        edges.sentence("promise 8", "IndexOutOfBoundsException if there is no such brand");
        edges.brandsThatThereAre((x, brand) -> x.sell(0, brand, 1));
    }

    private void sellMany() {
        edges.sentence("promise 8", "many: 1 to 500");
        edges.argumentFrom(1, 500, Scenes::greatShop, (x, many) -> x.sell(0, 0, many));
    }

    private void sellReason() {
        edges.sentence("promise 8", "IllegalStateException if there is a reason against it: full bottles in the shop");
        edges.allows("all of 24", EdgesSaleTest::onSale, x -> x.sell(0, 0, 24));
        edges.refusesState("25 of 24", EdgesSaleTest::onSale, x -> x.sell(0, 0, 25));
        edges.refusesState("one of none in this shop", EdgesSaleTest::onSale, x -> x.sell(1, 0, 1));
        edges.refusesState("one of none of this brand", EdgesSaleTest::onSale, x -> x.sell(0, 2, 1));
        edges.refusesState("one of none left", Scenes::greatReturn, x -> x.sell(0, 0, 1));
    }

    private void sellAnswer() {
        edges.sentence("promise 8", "returns its money then");
        edges.answers("one from nothing", 8, () -> {
            BottleLoop x = Scenes.stocked(60, 5, 1260);
            x.deliver(0, 0, 5);
            return x;
        }, x -> x.sell(0, 0, 1));
    }

    private void sellOrder() {
        edges.sentence("promise 8", "of several exceptions the one that is named first");
        edges.firstNamed("sell", EdgesSaleTest::onSale, (x, v) -> x.sell(v[0], v[1], v[2]),
                Edges.index(1, -1, 2), Edges.index(0, -1, 3), Edges.argument(1, 0, 501));
    }

    // ---- promise 9

    private void takeBack() {
        takeBackShop();
        takeBackBrand();
        takeBackMany();
        takeBackBottles();
        takeBackAnyBrand();
        takeBackMoney();
        takeBackOrder();
    }

    private void takeBackShop() {
        edges.sentence("promise 9", "IndexOutOfBoundsException if there is no such shop");
        edges.shopsThatThereAre((x, shop) -> x.takeBack(shop, 0, 1));
    }

    private void takeBackBrand() {
        edges.sentence("promise 9", "IndexOutOfBoundsException if there is no such brand");
        edges.brandsThatThereAre((x, brand) -> x.takeBack(0, brand, 1));
    }

    private void takeBackMany() {
        edges.sentence("promise 9", "many: 1 to 500");
        edges.argumentFrom(1, 500, Scenes::greatSale, (x, many) -> x.takeBack(0, 0, many));
    }

    private void takeBackBottles() {
        edges.sentence("promise 9", "reason 1: bottles of the brand that are out");
        edges.allows("all of 24", () -> Scenes.sold(192), x -> x.takeBack(2, 0, 24));
        edges.refusesState("25 of 24", () -> Scenes.sold(1000), x -> x.takeBack(2, 0, 25));
        edges.refusesState("one of none of this brand", () -> Scenes.sold(1000), x -> x.takeBack(0, 1, 1));
        edges.refusesState("one of none left", Scenes::greatReturn, x -> x.takeBack(0, 0, 1));
    }

    private void takeBackAnyBrand() {
        edges.sentence("what it is", "shops take back any brand");
        edges.answers("of which it never had one", 0, () -> Scenes.sold(8), x -> x.takeBack(2, 0, 1));
        edges.answers("less than it sold", -1, () -> Scenes.sold(8), x -> {
            x.takeBack(2, 0, 1);
            return x.shop(2, 6);
        });
    }

    private void takeBackMoney() {
        edges.sentence("promise 9", "reason 3: the shop has not enough money");
        edges.answers("all of its money", 0, () -> Scenes.sold(80), x -> x.takeBack(2, 0, 10));
        edges.refusesState("one less", () -> Scenes.sold(79), x -> x.takeBack(2, 0, 10));
        edges.answers("all that 79 pay for", 7, () -> Scenes.sold(79), x -> x.takeBack(2, 0, 9));
        edges.refusesState("without money", () -> Scenes.sold(0), x -> x.takeBack(2, 0, 1));
    }

    private void takeBackOrder() {
        edges.sentence("promise 9", "of several exceptions the one that is named first");
        edges.firstNamed("takeBack", () -> Scenes.sold(0), (x, v) -> x.takeBack(v[0], v[1], v[2]),
                Edges.index(2, -1, 3), Edges.index(0, -1, 3), Edges.argument(1, 0, 501));
    }

    // ---- promise 10

    private void breaks() {
        breaksShop();
        breaksBrand();
        breaksMany();
        breaksReason();
        breaksPool();
        breaksForfeits();
        breaksOrder();
    }

    private void breaksShop() {
        edges.sentence("promise 10", "IndexOutOfBoundsException if there is no such shop");
        edges.shopsThatThereAre((x, shop) -> x.breaks(shop, 0, 1));
    }

    private void breaksBrand() {
        edges.sentence("promise 10", "IndexOutOfBoundsException if there is no such brand");
        edges.brandsThatThereAre((x, brand) -> x.breaks(0, brand, 1));
    }

    private void breaksMany() {
        edges.sentence("promise 10", "many: 1 to 500");
        edges.argumentFrom(1, 500, Scenes::greatReturn, (x, many) -> x.breaks(0, 0, many));
    }

    private void breaksReason() {
        edges.sentence("promise 10", "IllegalStateException if there is a reason against it: empty bottles there");
        edges.allows("all of 20", Scenes::takenBack, x -> x.breaks(0, 0, 20));
        edges.refusesState("21 of 20", Scenes::takenBack, x -> x.breaks(0, 0, 21));
        edges.refusesState("one of none in this shop", Scenes::takenBack, x -> x.breaks(1, 0, 1));
        edges.refusesState("one of none of this brand", Scenes::takenBack, x -> x.breaks(0, 2, 1));
        edges.refusesState("a full one", Scenes::greatShop, x -> x.breaks(0, 0, 1));
        edges.refusesState("one that is out", Scenes::greatSale, x -> x.breaks(0, 0, 1));
    }

    /** So much is in the pool, 0 to 100; shop 0 has 12 empty bottles, for 8 each. */
    private static BottleLoop pool(int money) {
        BottleLoop x = Scenes.stocked(12, 1, 5000);
        x.set(4, money);
        x.deliver(0, 0, 1);
        x.sell(0, 0, 12);
        x.takeBack(0, 0, 12);
        return x;
    }

    private void breaksPool() {
        edges.sentence("break", "the deposits out of the pool, or all of its money if that is less");
        edges.answers("more than the deposits", 16, () -> pool(17), x -> x.breaks(0, 0, 2));
        edges.answers("just the deposits", 16, () -> pool(16), x -> x.breaks(0, 0, 2));
        edges.answers("one less", 15, () -> pool(15), x -> x.breaks(0, 0, 2));
        edges.answers("one", 1, () -> pool(1), x -> x.breaks(0, 0, 12));
        edges.answers("an empty pool", 0, () -> pool(0), x -> x.breaks(0, 0, 12));
        poolThen(17, 1);
        poolThen(16, 0);
        poolThen(15, 0);
    }

    private void poolThen(int money, int left) {
        BottleLoop x = pool(money);
        int before = x.shop(0, 0);
        x.breaks(0, 0, 2);
        checks.same("the pool then", x.count(6), left);
        checks.same("the shop's money then", x.shop(0, 0), before + money - left);
        checks.same("what the shop paid into the pool", x.shop(0, 5), left);
    }

    private void breaksForfeits() {
        edges.sentence("break", "the association keeps what it holds for them, it is forfeited");
        for (int money : new int[] {0, 100}) {
            BottleLoop x = pool(money);
            int before = x.count(4);
            x.breaks(0, 0, 12);
            checks.same("held then", x.count(4), before);
            checks.same("forfeited then", x.count(5), 96);
            checks.same("what the shop paid to the association", x.shop(0, 4), before);
        }
    }

    private void breaksOrder() {
        edges.sentence("promise 10", "of several exceptions the one that is named first");
        edges.firstNamed("breaks", Scenes::delivered, (x, v) -> x.breaks(v[0], v[1], v[2]),
                Edges.index(0, -1, 2), Edges.index(0, -1, 3), Edges.argument(1, 0, 501));
    }
}
