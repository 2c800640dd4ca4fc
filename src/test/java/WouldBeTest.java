/** Promises 24 to 31: what would be, and the hash. */
public final class WouldBeTest {
    private final Checks checks = new Checks();

    private WouldBeTest() {
    }

    public static void main(String[] args) {
        WouldBeTest test = new WouldBeTest();
        test.whyNotDeliver();
        test.whyNotCollect();
        test.mostCrates();
        test.collected();
        test.filled();
        test.bestShop();
        test.goneShare();
        test.digest();
        test.nothingChanges();
        test.checks.end();
    }

    private void whyNotDeliver() {
        checks.begin("promise 24");
        BottleLoop x = new BottleLoop();
        x.addBrand(0, 40);
        x.addShop(504);
        x.addShop(251);
        x.buyCrates(2);
        x.fill(0, 39);
        checks.same("none", x.whyNotDeliver(0, 0, 2), 0);
        checks.same("bottles, crates and money", x.whyNotDeliver(0, 1, 4), 1);
        checks.same("crates and money", x.whyNotDeliver(0, 1, 3), 2);
        checks.same("money", x.whyNotDeliver(0, 1, 1), 3);
        checks.same("50", x.whyNotDeliver(0, 0, 50), 1);
        checks.refusesIndex("brand 1", () -> x.whyNotDeliver(1, 0, 0));
        checks.refusesIndex("brand -1", () -> x.whyNotDeliver(-1, 0, 1));
        checks.refusesIndex("shop 2", () -> x.whyNotDeliver(0, 2, 51));
        checks.refusesIndex("shop -1", () -> x.whyNotDeliver(0, -1, 1));
        checks.refusesArgument("0", () -> x.whyNotDeliver(0, 0, 0));
        checks.refusesArgument("51", () -> x.whyNotDeliver(0, 0, 51));
    }

    private void whyNotCollect() {
        checks.begin("promise 25");
        BottleLoop x = Scenes.takenBack();
        x.sell(0, 0, 4);
        x.deliver(1, 0, 1);
        x.sell(0, 1, 12);
        x.takeBack(1, 1, 12);
        checks.same("none", x.whyNotCollect(0, 0, 2), 0);
        checks.same("bottles", x.whyNotCollect(0, 0, 3), 1);
        checks.same("bottles of another kind", x.whyNotCollect(0, 1, 1), 1);
        checks.same("crates", x.whyNotCollect(1, 0, 1), 2);
        checks.same("bottles and crates", x.whyNotCollect(1, 0, 2), 1);
        checks.same("50", x.whyNotCollect(0, 0, 50), 1);
        checks.refusesIndex("shop 2", () -> x.whyNotCollect(2, 3, 1));
        checks.refusesIndex("shop -1", () -> x.whyNotCollect(-1, 0, 0));
        checks.refusesArgument("kind 3", () -> x.whyNotCollect(0, 3, 1));
        checks.refusesArgument("kind -1", () -> x.whyNotCollect(0, -1, 1));
        checks.refusesArgument("0", () -> x.whyNotCollect(0, 0, 0));
        checks.refusesArgument("51", () -> x.whyNotCollect(0, 0, 51));
    }

    private void mostCrates() {
        checks.begin("promise 26");
        BottleLoop x = Scenes.filled();
        checks.same("by the bottles", x.mostCrates(0, 0), 3);
        checks.same("by the money", x.mostCrates(2, 1), 2);
        checks.same("none are full", Scenes.empty().mostCrates(0, 0), 0);
        BottleLoop y = new BottleLoop();
        y.addBrand(0, 1200);
        y.addShop(100000);
        y.addShop(251);
        y.addShop(252);
        y.fill(0, 1200);
        checks.same("no crates", y.mostCrates(0, 0), 0);
        y.buyCrates(49);
        checks.same("by the crates", y.mostCrates(0, 0), 49);
        y.buyCrates(11);
        checks.same("at most 50", y.mostCrates(0, 0), 50);
        checks.same("money for less than one", y.mostCrates(0, 1), 0);
        checks.same("money for one", y.mostCrates(0, 2), 1);
        checks.refusesIndex("brand 1", () -> y.mostCrates(1, 0));
        checks.refusesIndex("brand -1", () -> y.mostCrates(-1, 0));
        checks.refusesIndex("shop 3", () -> y.mostCrates(0, 3));
        checks.refusesIndex("shop -1", () -> y.mostCrates(0, -1));
    }

    private void collected() {
        checks.begin("promise 27");
        BottleLoop x = Scenes.takenBack();
        checks.same("brand 0 in one", x.collected(0, 0, 1), 10);
        checks.same("brand 1 in one", x.collected(0, 1, 1), 2);
        checks.same("brand 0 in two", x.collected(0, 0, 2), 16);
        checks.same("brand 1 in two", x.collected(0, 1, 2), 8);
        checks.same("three", x.collected(0, 0, 3), BottleLoop.NONE);
        checks.same("of another kind", x.collected(0, 2, 1), BottleLoop.NONE);
        checks.same("in another shop", x.collected(1, 0, 1), BottleLoop.NONE);
        x.addBrand(0, 0);
        checks.same("a brand without bottles", x.collected(0, 3, 1), 0);
        BottleLoop y = Scenes.delivered();
        y.sell(0, 0, 12);
        y.takeBack(1, 0, 12);
        checks.same("without crates", y.collected(1, 0, 1), BottleLoop.NONE);
        checks.refusesIndex("shop 2", () -> x.collected(2, 0, 0));
        checks.refusesIndex("shop -1", () -> x.collected(-1, 0, 1));
        checks.refusesIndex("brand 4", () -> x.collected(0, 4, 51));
        checks.refusesIndex("brand -1", () -> x.collected(0, -1, 1));
        checks.refusesArgument("0", () -> x.collected(0, 0, 0));
        checks.refusesArgument("51", () -> x.collected(0, 0, 51));
    }

    private void filled() {
        checks.begin("promise 28");
        BottleLoop x = Scenes.empty();
        checks.same("19", x.filled(0, 19), 19);
        checks.same("20", x.filled(0, 20), 19);
        checks.same("more than there are", x.filled(0, 5000), 4750);
        x.fill(0, 19);
        checks.same("the 20th", x.filled(0, 1), 0);
        checks.same("the 20th to 40th", x.filled(0, 21), 19);
        checks.same("of another brand", x.filled(1, 1), 1);
        x.set(5, 2);
        checks.same("the 20th and 21st of 2", x.filled(0, 2), 1);
        checks.refusesIndex("brand 3", () -> x.filled(3, 0));
        checks.refusesIndex("brand -1", () -> x.filled(-1, 1));
        checks.refusesArgument("0", () -> x.filled(0, 0));
        checks.refusesArgument("5001", () -> x.filled(0, 5001));
    }

    /** Brings so many crates of empty bottles of brand 0 into the shop. */
    private static void bring(BottleLoop x, int shop, int crates) {
        for (int i = 0; i < crates; i++) {
            x.deliver(0, shop, 1);
            x.sell(shop, 0, 12);
            x.takeBack(shop, 0, 12);
        }
    }

    private void bestShop() {
        checks.begin("promise 29");
        BottleLoop x = new BottleLoop();
        checks.same("no shops", x.bestShop(0), BottleLoop.NONE);
        x.addBrand(0, 1500);
        x.set(5, 1000);
        x.fill(0, 1500);
        for (int shop = 0; shop < 4; shop++) {
            x.addShop(30000);
        }
        x.buyCrates(120);
        checks.same("no bottles", x.bestShop(0), BottleLoop.NONE);
        bring(x, 2, 1);
        checks.same("one crate", x.bestShop(0), 2);
        checks.same("another kind", x.bestShop(1), BottleLoop.NONE);
        bring(x, 3, 2);
        checks.same("two crates", x.bestShop(0), 3);
        bring(x, 1, 2);
        checks.same("of several the lowest", x.bestShop(0), 1);
        x.deliver(0, 0, 5);
        checks.same("crates without empty bottles", x.bestShop(0), 1);
        x.sell(0, 0, 35);
        x.takeBack(0, 0, 35);
        checks.same("less than three crates full", x.bestShop(0), 0);
        bring(x, 2, 49);
        checks.same("50", x.bestShop(0), 2);
        bring(x, 3, 49);
        checks.same("51 count as 50", x.bestShop(0), 2);
        checks.refusesArgument("-1", () -> x.bestShop(-1));
        checks.refusesArgument("3", () -> x.bestShop(3));
        BottleLoop y = Scenes.delivered();
        y.sell(0, 0, 12);
        y.takeBack(1, 0, 12);
        checks.same("bottles without a crate", y.bestShop(0), BottleLoop.NONE);
    }

    private void goneShare() {
        checks.begin("promise 30");
        checks.same("no brands", new BottleLoop().goneShare(), 0.0);
        BottleLoop none = new BottleLoop();
        none.addBrand(0, 0);
        checks.same("no bottles", none.goneShare(), 0.0);
        checks.same("none gone", Scenes.empty().goneShare(), 0.0);
        checks.same("6 worn out", Scenes.filled().goneShare(), 6 / 200.0);
        BottleLoop x = Scenes.takenBack();
        x.breaks(0, 0, 5);
        x.sell(0, 0, 4);
        x.lose(0, 2);
        checks.same("6 worn out, 5 broken, 2 lost", x.goneShare(), 13 / 200.0);
        x.collect(0, 0, 1);
        x.sort(0, 3);
        checks.same("with some in the yard", x.goneShare(), 13 / 200.0);
        BottleLoop all = new BottleLoop();
        all.addBrand(0, 24);
        all.addShop(1000);
        all.buyCrates(2);
        all.fill(0, 19);
        all.deliver(0, 0, 1);
        all.sell(0, 0, 12);
        all.lose(0, 12);
        checks.same("12 of 24", all.goneShare(), 0.5);
        checks.same("all gone", gone().goneShare(), 1.0);
    }

    private static BottleLoop gone() {
        BottleLoop x = new BottleLoop();
        x.addBrand(0, 12);
        x.addShop(1000);
        x.buyCrates(1);
        x.fill(0, 12);
        x.deliver(0, 0, 1);
        x.sell(0, 0, 12);
        x.lose(0, 12);
        return x;
    }

    private void digest() {
        checks.begin("promise 31");
        BottleLoop[] loops = {
            new BottleLoop(), Scenes.empty(), Scenes.filled(), Scenes.delivered(), Scenes.takenBack()};
        for (BottleLoop x : loops) {
            checks.same("without a text", x.digest(), Hash.of(x, ""));
            Scenes.write(x, "d0>0*1;~!");
            checks.same("with a text", x.digest(), Hash.of(x, "d0>0*1;~!"));
        }
        sharesInHash();
    }

    /** Shares of many sizes, since their bits are worked out without Double: gone bottles of all up to all of them. */
    private void sharesInHash() {
        checks.same("with a share of 1.0", gone().digest(), Hash.of(gone(), ""));
        for (int bottles = 1; bottles <= 5000; bottles += 1 + bottles / 9) {
            BottleLoop x = new BottleLoop();
            x.addBrand(2, bottles);
            x.set(5, 2);
            for (int i = 0; i < 40 && x.brand(0, 1) > 0; i++) {
                x.fill(0, 1 + (x.brand(0, 1) - 1) / 3);
                checks.same("with a share of " + x.goneShare(), x.digest(), Hash.of(x, ""));
            }
        }
    }

    private void nothingChanges() {
        checks.begin("promises 20 to 31");
        BottleLoop x = Scenes.takenBack();
        Scenes.write(x, "d0>");
        long before = x.digest();
        x.brand(0, 1);
        x.shop(0, 1);
        x.count(1);
        x.setting(1);
        x.whyNotDeliver(0, 0, 1);
        x.whyNotCollect(0, 0, 1);
        x.mostCrates(0, 0);
        x.collected(0, 0, 2);
        x.filled(0, 100);
        x.bestShop(0);
        x.goneShare();
        x.firstError();
        checks.same("digest()", x.digest(), before);
    }
}
