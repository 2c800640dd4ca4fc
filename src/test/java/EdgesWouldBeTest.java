/** The boundary cases of promises 24 to 31, a test for each sentence that names one. */
public final class EdgesWouldBeTest {
    private final Checks checks = new Checks();
    private final Edges edges = new Edges(checks);

    private EdgesWouldBeTest() {
    }

    public static void main(String[] args) {
        EdgesWouldBeTest test = new EdgesWouldBeTest();
        test.whyNotDeliver();
        test.whyNotCollect();
        test.mostCrates();
        test.collected();
        test.filled();
        test.bestShop();
        test.goneShare();
        test.digest();
        test.nothingIsChanged();
        test.checks.end();
    }

    // ---- promise 24

    private void whyNotDeliver() {
        whyNotDeliverBrand();
        whyNotDeliverShop();
        whyNotDeliverCrates();
        whyNotDeliverFirst();
        whyNotDeliverOfBrandAndShop();
        whyNotDeliverByKind();
        whyNotDeliverOrder();
    }

    private void whyNotDeliverBrand() {
        edges.sentence("promise 24", "IndexOutOfBoundsException if there is no such brand");
        edges.brandsThatThereAre((x, brand) -> x.whyNotDeliver(brand, 0, 1));
    }

    private void whyNotDeliverShop() {
        edges.sentence("promise 24", "IndexOutOfBoundsException if there is no such shop");
        edges.shopsThatThereAre((x, shop) -> x.whyNotDeliver(0, shop, 1));
    }

    private void whyNotDeliverCrates() {
        edges.sentence("promise 24", "crates: 1 to 50");
        edges.argumentFrom(1, 50, Scenes::great, (x, crates) -> x.whyNotDeliver(0, 0, crates));
        edges.argumentFrom(1, 50, Scenes::empty, (x, crates) -> x.whyNotDeliver(0, 0, crates));
    }

    private void whyNot(int due, int full, int crates, int money) {
        edges.answers(full + " bottles, " + crates + " crates, " + money, due,
                () -> Scenes.stocked(full, crates, money), x -> x.whyNotDeliver(0, 0, 2));
    }

    private void whyNotDeliverFirst() {
        edges.sentence("promise 24", "returns the reason, 0 if there is none; the first one that applies");
        whyNot(0, 24, 2, 504);
        whyNot(1, 23, 2, 504);
        whyNot(2, 24, 1, 504);
        whyNot(3, 24, 2, 503);
        whyNot(2, 24, 1, 503);
        whyNot(1, 23, 2, 503);
        whyNot(1, 23, 1, 504);
        whyNot(1, 23, 1, 503);
        whyNot(1, 0, 0, 0);
    }

    private void whyNotDeliverOfBrandAndShop() {
        edges.sentence("promise 24", "brand: its number; shop: its number");
        for (int brand = 0; brand <= 2; brand++) {
            for (int shop = 0; shop <= 2; shop++) {
                int b = brand;
                int s = shop;
                int due = b != 2 ? 1 : s != 1 ? 3 : 0;
                edges.answers(b + " to " + s, due, EdgesWouldBeTest::onlyBrand2ToShop1, x -> x.whyNotDeliver(b, s, 3));
            }
        }
    }

    private void whyNotDeliverByKind() {
        edges.sentence("terms", "the deposit for a bottle depends on its kind");
        int[] price = {12 * 15 + 156, 12 * 25 + 156, 12 * 8 + 156};
        for (int brand = 0; brand < price.length; brand++) {
            int b = brand;
            edges.answers("just its price", 0, () -> eachKind(price[b]), x -> x.whyNotDeliver(b, 0, 1));
            edges.answers("one less", 3, () -> eachKind(price[b] - 1), x -> x.whyNotDeliver(b, 0, 1));
            edges.answers("mostCrates(), just for two", 2, () -> eachKind(2 * price[b]), x -> x.mostCrates(b, 0));
            edges.answers("mostCrates(), one less", 1, () -> eachKind(2 * price[b] - 1), x -> x.mostCrates(b, 0));
        }
    }

    /** Brands of the kinds 1, 2 and 0 have bottles for 2 crates each; the shop has so much money. */
    private static BottleLoop eachKind(int money) {
        BottleLoop x = new BottleLoop();
        x.addShop(money);
        x.buyCrates(9);
        for (int brand = 0; brand < 3; brand++) {
            x.addBrand((brand + 1) % 3, 26);
            x.fill(brand, 26);
        }
        return x;
    }

    /** Brand 2 alone has full bottles, for 3 crates, and shop 1 alone has money for as many; others for less. */
    private static BottleLoop onlyBrand2ToShop1() {
        BottleLoop x = new BottleLoop();
        for (int brand = 0; brand <= 2; brand++) {
            x.addBrand(0, 38);
            x.addShop(brand == 1 ? 756 : 755);
        }
        x.fill(2, 38);
        x.buyCrates(9);
        return x;
    }

    private void whyNotDeliverOrder() {
        edges.sentence("promise 24", "of several exceptions the one that is named first");
        for (int crates : new int[] {0, 51}) {
            edges.refusesIndex("brand, " + crates, Scenes::empty, x -> x.whyNotDeliver(3, 0, crates));
            edges.refusesIndex("shop, " + crates, Scenes::empty, x -> x.whyNotDeliver(0, 2, crates));
        }
    }

    // ---- promise 25

    private void whyNotCollect() {
        whyNotCollectShop();
        whyNotCollectKind();
        whyNotCollectCrates();
        whyNotCollectFirst();
        whyNotCollectOrder();
    }

    private void whyNotCollectShop() {
        edges.sentence("promise 25", "IndexOutOfBoundsException if there is no such shop");
        edges.shopsThatThereAre((x, shop) -> x.whyNotCollect(shop, 0, 1));
    }

    private void whyNotCollectKind() {
        edges.sentence("promise 25", "kind: 0 to 2");
        edges.argumentFrom(0, 2, Scenes::empty, (x, kind) -> x.whyNotCollect(0, kind, 1));
    }

    private void whyNotCollectCrates() {
        edges.sentence("promise 25", "crates: 1 to 50");
        edges.argumentFrom(1, 50, Scenes::greatReturn, (x, crates) -> x.whyNotCollect(0, 0, crates));
        edges.argumentFrom(1, 50, Scenes::empty, (x, crates) -> x.whyNotCollect(0, 0, crates));
    }

    private void whyNotCollectFirst() {
        edges.sentence("promise 25", "returns the reason, 0 if there is none; the first one that applies");
        edges.answers("24 and 2", 0, () -> Scenes.backElsewhere(24, 2), x -> x.whyNotCollect(1, 0, 2));
        edges.answers("23 and 2", 1, () -> Scenes.backElsewhere(23, 2), x -> x.whyNotCollect(1, 0, 2));
        edges.answers("24 and 1", 2, () -> Scenes.backElsewhere(24, 1), x -> x.whyNotCollect(1, 0, 2));
        edges.answers("23 and 1", 1, () -> Scenes.backElsewhere(23, 1), x -> x.whyNotCollect(1, 0, 2));
        edges.answers("24 and none", 2, () -> Scenes.backElsewhere(24, 0), x -> x.whyNotCollect(1, 0, 1));
        edges.answers("of another kind", 1, () -> Scenes.backElsewhere(24, 2), x -> x.whyNotCollect(1, 1, 1));
        edges.answers("600 and 50", 0, Scenes::greatReturn, x -> x.whyNotCollect(0, 0, 50));
    }

    private void whyNotCollectOrder() {
        edges.sentence("promise 25", "of several exceptions the one that is named first");
        edges.refusesIndex("shop, kind", Scenes::empty, x -> x.whyNotCollect(2, 3, 1));
        edges.refusesIndex("shop, crates", Scenes::empty, x -> x.whyNotCollect(-1, 0, 51));
        edges.refusesIndex("shop, kind, crates", Scenes::empty, x -> x.whyNotCollect(-1, -1, 0));
    }

    // ---- promise 26

    private void mostCrates() {
        mostCratesBrand();
        mostCratesShop();
        mostCratesFrom0To50();
        mostCratesByEach();
        mostCratesOfBrandAndShop();
        mostCratesCanBeDelivered();
    }

    private void mostCratesBrand() {
        edges.sentence("promise 26", "IndexOutOfBoundsException if there is no such brand");
        edges.brandsThatThereAre((x, brand) -> x.mostCrates(brand, 0));
    }

    private void mostCratesShop() {
        edges.sentence("promise 26", "IndexOutOfBoundsException if there is no such shop");
        edges.shopsThatThereAre((x, shop) -> x.mostCrates(0, shop));
    }

    private void most(int due, int full, int crates, int money) {
        edges.answers(full + " bottles, " + crates + " crates, " + money, due,
                () -> Scenes.stocked(full, crates, money), x -> x.mostCrates(0, 0));
    }

    private void mostCratesFrom0To50() {
        edges.sentence("promise 26", "the greatest number of crates, 0 to 50");
        most(0, 0, 0, 0);
        most(49, 599, 50, 100000);
        most(50, 600, 50, 100000);
        most(50, 612, 51, 100000);
        most(50, 999, 500, 100000);
        edges.answers("all of 4995 bottles", 50, Scenes::great, x -> x.mostCrates(0, 0));
    }

    private void mostCratesByEach() {
        edges.sentence("terms", "divisions are rounded down: crates by bottles, by the store, by the money");
        most(0, 11, 9, 5000);
        most(1, 12, 9, 5000);
        most(1, 23, 9, 5000);
        most(2, 24, 9, 5000);
        most(0, 240, 0, 5000);
        most(1, 240, 1, 5000);
        most(0, 240, 9, 251);
        most(1, 240, 9, 252);
        most(1, 240, 9, 503);
        most(2, 240, 9, 504);
    }

    private void mostCratesOfBrandAndShop() {
        edges.sentence("promise 26", "brand: its number; shop: its number");
        for (int brand = 0; brand <= 2; brand++) {
            for (int shop = 0; shop <= 2; shop++) {
                int b = brand;
                int s = shop;
                int due = b != 2 ? 0 : s != 1 ? 2 : 3;
                edges.answers(b + " to " + s, due, EdgesWouldBeTest::onlyBrand2ToShop1, x -> x.mostCrates(b, s));
            }
        }
    }

    private void mostCratesCanBeDelivered() {
        edges.sentence("promise 26", "that could be delivered in one call");
        for (int full : new int[] {0, 11, 12, 35, 36, 37}) {
            for (int crates : new int[] {0, 1, 3}) {
                for (int money : new int[] {0, 251, 252, 755, 756, 5000}) {
                    BottleLoop x = Scenes.stocked(full, crates, money);
                    int most = x.mostCrates(0, 0);
                    checks.same("so many", most == 0 || x.whyNotDeliver(0, 0, most) == 0, true);
                    checks.same("one more", x.whyNotDeliver(0, 0, most + 1) > 0, true);
                }
            }
        }
    }

    // ---- promise 27

    private void collected() {
        collectedShop();
        collectedBrand();
        collectedCrates();
        collectedNone();
        collectedOfEach();
        collectedOrder();
    }

    private void collectedShop() {
        edges.sentence("promise 27", "IndexOutOfBoundsException if there is no such shop");
        edges.shopsThatThereAre((x, shop) -> x.collected(shop, 0, 1));
    }

    private void collectedBrand() {
        edges.sentence("promise 27", "IndexOutOfBoundsException if there is no such brand");
        edges.brandsThatThereAre((x, brand) -> x.collected(0, brand, 1));
    }

    private void collectedCrates() {
        edges.sentence("promise 27", "crates: 1 to 50");
        edges.argumentFrom(1, 50, Scenes::greatReturn, (x, crates) -> x.collected(0, 0, crates));
        edges.argumentFrom(1, 50, Scenes::empty, (x, crates) -> x.collected(0, 0, crates));
    }

    private void collectedNone() {
        edges.sentence("promise 27", "NONE if these cannot be collected");
        edges.answers("24 and 2", 24, () -> Scenes.backElsewhere(24, 2), x -> x.collected(1, 0, 2));
        edges.answers("23 and 2", -1, () -> Scenes.backElsewhere(23, 2), x -> x.collected(1, 0, 2));
        edges.answers("24 and 1", -1, () -> Scenes.backElsewhere(24, 1), x -> x.collected(1, 0, 2));
        edges.answers("of another kind", -1, () -> Scenes.backElsewhere(24, 2), x -> x.collected(1, 1, 2));
        edges.answers("600 and 50", 600, Scenes::greatReturn, x -> x.collected(0, 0, 50));
    }

    private void collectedOfEach() {
        edges.sentence("promise 27", "how many of its bottles would be in so many crates of its kind");
        edges.answers("none of a brand", 0, Scenes::greatReturn, x -> x.collected(0, 1, 50));
        edges.answers("the lowest of two", 6, () -> Scenes.busy(2, 1), x -> x.collected(0, 0, 1));
        edges.answers("the other of two", 6, () -> Scenes.busy(2, 1), x -> x.collected(0, 1, 1));
        edges.answers("the lowest of eight", 2, () -> Scenes.busy(8, 1), x -> x.collected(0, 0, 1));
        edges.answers("the fourth of eight", 2, () -> Scenes.busy(8, 1), x -> x.collected(0, 3, 1));
        edges.answers("the fifth of eight", 1, () -> Scenes.busy(8, 1), x -> x.collected(0, 4, 1));
        edges.answers("all but a few of eight", 13, () -> Scenes.busy(8, 1), x -> x.collected(0, 7, 9));
        for (int brand = 0; brand < 8; brand++) {
            int b = brand;
            BottleLoop x = Scenes.busy(8, 1);
            int would = x.collected(0, b, 5);
            x.collect(0, 0, 5);
            checks.same("as collect()", x.brand(b, 6), would);
        }
    }

    private void collectedOrder() {
        edges.sentence("promise 27", "of several exceptions the one that is named first");
        for (int crates : new int[] {0, 51}) {
            edges.refusesIndex("shop, " + crates, Scenes::empty, x -> x.collected(2, 0, crates));
            edges.refusesIndex("brand, " + crates, Scenes::empty, x -> x.collected(0, 3, crates));
        }
    }

    // ---- promise 28

    private void filled() {
        filledBrand();
        filledMany();
        filledAtAMultiple();
        filledOfNone();
        filledOrder();
    }

    private void filledBrand() {
        edges.sentence("promise 28", "IndexOutOfBoundsException if there is no such brand");
        edges.brandsThatThereAre((x, brand) -> x.filled(brand, 1));
    }

    private void filledMany() {
        edges.sentence("promise 28", "many: 1 to 5000");
        edges.argumentFrom(1, 5000, Scenes::great, (x, many) -> x.filled(1, many));
        edges.argumentFrom(1, 5000, Scenes::great, (x, many) -> x.filled(0, many));
    }

    private static BottleLoop filledSoFar(int many) {
        BottleLoop x = new BottleLoop();
        x.addBrand(0, 100);
        if (many > 0) {
            x.fill(0, many);
        }
        return x;
    }

    private void filledAtAMultiple() {
        edges.sentence("promise 28", "returns how many of so many empty bottles would become full");
        edges.answers("1 to 19", 19, () -> filledSoFar(0), x -> x.filled(0, 19));
        edges.answers("1 to 20", 19, () -> filledSoFar(0), x -> x.filled(0, 20));
        edges.answers("20", 0, () -> filledSoFar(19), x -> x.filled(0, 1));
        edges.answers("21", 1, () -> filledSoFar(20), x -> x.filled(0, 1));
        edges.answers("21 to 39", 19, () -> filledSoFar(20), x -> x.filled(0, 19));
        edges.answers("20 to 40", 19, () -> filledSoFar(19), x -> x.filled(0, 21));
        edges.answers("by another setting", 2, () -> {
            BottleLoop x = filledSoFar(19);
            x.set(5, 2);
            return x;
        }, x -> x.filled(0, 4));
    }

    private void filledOfNone() {
        edges.sentence("promise 28", "whether there are so many does not matter");
        edges.answers("100 of 100", 95, () -> filledSoFar(0), x -> x.filled(0, 100));
        edges.answers("101 of 100", 96, () -> filledSoFar(0), x -> x.filled(0, 101));
        edges.answers("5000 of none", 4750, () -> filledSoFar(100), x -> x.filled(0, 5000));
    }

    private void filledOrder() {
        edges.sentence("promise 28", "of several exceptions the one that is named first");
        for (int many : new int[] {0, 5001}) {
            edges.refusesIndex("brand 3, " + many, Scenes::empty, x -> x.filled(3, many));
            edges.refusesIndex("brand -1, " + many, Scenes::empty, x -> x.filled(-1, many));
        }
    }

    // ---- promise 29

    private void bestShop() {
        bestShopKind();
        bestShopNone();
        bestShopMost();
        bestShopAtMost50();
        bestShopLowest();
    }

    private void bestShopKind() {
        edges.sentence("promise 29", "IllegalArgumentException if kind is out of range");
        edges.argumentFrom(0, 2, () -> Scenes.busy(2, 2), BottleLoop::bestShop);
        edges.argumentFrom(0, 2, BottleLoop::new, BottleLoop::bestShop);
    }

    private void bestShopNone() {
        edges.sentence("promise 29", "NONE if none can be");
        edges.answers("no shops", -1, BottleLoop::new, x -> x.bestShop(0));
        edges.answers("no bottles", -1, Scenes::empty, x -> x.bestShop(0));
        edges.answers("11 bottles", -1, () -> Scenes.returned(11), x -> x.bestShop(0));
        edges.answers("12 bottles", 0, () -> Scenes.returned(12), x -> x.bestShop(0));
        edges.answers("of another kind", -1, () -> Scenes.returned(12), x -> x.bestShop(1));
        edges.answers("bottles without crates", -1, () -> Scenes.backElsewhere(24, 0), x -> x.bestShop(0));
        edges.answers("bottles with a crate", 1, () -> Scenes.backElsewhere(24, 1), x -> x.bestShop(0));
        edges.answers("in the sixth shop", 5, () -> inShops(0, 0, 0, 0, 0, 1), x -> x.bestShop(0));
    }

    /** Shops with so many crates of empty bottles of brand 0. */
    private static BottleLoop inShops(int... crates) {
        BottleLoop x = Scenes.cheap();
        for (int shop = 0; shop < crates.length; shop++) {
            x.addShop(100000);
        }
        x.addBrand(0, 5000);
        x.fill(0, 5000);
        x.buyCrates(500);
        for (int shop = 0; shop < crates.length; shop++) {
            bring(x, shop, crates[shop]);
        }
        return x;
    }

    private static void bring(BottleLoop x, int shop, int crates) {
        int left = crates;
        while (left > 0) {
            int many = Math.min(left, 40);
            x.deliver(0, shop, many);
            x.sell(shop, 0, 12 * many);
            x.takeBack(shop, 0, 12 * many);
            left -= many;
        }
    }

    private void bestShopMost() {
        edges.sentence("promise 29", "the shop from which most crates of this kind could be collected");
        edges.answers("the first", 0, () -> inShops(3, 2, 2), x -> x.bestShop(0));
        edges.answers("the last", 2, () -> inShops(2, 2, 3), x -> x.bestShop(0));
        edges.answers("fewer crates than bottles for them", 0, () -> outOfShop0(24, 96, 1), x -> x.bestShop(0));
        edges.answers("fewer bottles than crates for them", 1, () -> outOfShop0(24, 36, 3), x -> x.bestShop(0));
    }

    /** So many of its bottles come back in shop 0, which has 10 crates, and in shop 1, which has so many others. */
    private static BottleLoop outOfShop0(int backInShop0, int backInShop1, int cratesInShop1) {
        BottleLoop x = Scenes.backElsewhere(backInShop1, cratesInShop1);
        x.takeBack(0, 0, backInShop0);
        return x;
    }

    private void bestShopAtMost50() {
        edges.sentence("promise 29", "in one call (at most 50)");
        edges.answers("49 and 50", 1, () -> inShops(49, 50), x -> x.bestShop(0));
        edges.answers("50 and 51", 0, () -> inShops(50, 51), x -> x.bestShop(0));
        edges.answers("49 and 80", 1, () -> inShops(49, 80), x -> x.bestShop(0));
        edges.answers("50 and 80", 0, () -> inShops(50, 80), x -> x.bestShop(0));
    }

    private void bestShopLowest() {
        edges.sentence("promise 29", "of several the lowest number");
        edges.answers("two", 0, () -> inShops(2, 2), x -> x.bestShop(0));
        edges.answers("two of three", 1, () -> inShops(1, 2, 2), x -> x.bestShop(0));
        edges.answers("all six", 0, () -> inShops(1, 1, 1, 1, 1, 1), x -> x.bestShop(0));
    }

    // ---- promise 30

    private void goneShare() {
        goneShareOfNone();
        goneShareEnds();
        goneShareOfAll();
    }

    private void goneShareOfNone() {
        edges.sentence("promise 30", "0.0 if there are no bottles");
        edges.answers("no brands", 0.0, BottleLoop::new, BottleLoop::goneShare);
        edges.answers("a brand without bottles", 0.0, () -> Scenes.stocked(0, 0, 0), BottleLoop::goneShare);
        checks.same("and no other zero", 1.0 / new BottleLoop().goneShare(), Double.POSITIVE_INFINITY);
    }

    private static BottleLoop wornOut(int bottles, int fills) {
        BottleLoop x = new BottleLoop();
        x.set(5, 2);
        x.addBrand(0, bottles);
        for (int i = 0; i < fills; i++) {
            x.fill(0, 1);
        }
        return x;
    }

    private void goneShareEnds() {
        edges.sentence("promise 30", "broken, lost or worn out, as a double");
        edges.answers("none", 0.0, () -> wornOut(5000, 1), BottleLoop::goneShare);
        edges.answers("one worn out of 5000", 1.0 / 5000, () -> wornOut(5000, 2), BottleLoop::goneShare);
        edges.answers("one worn out of three", 1.0 / 3, () -> wornOut(3, 2), BottleLoop::goneShare);
        edges.answers("all but one lost", 11.0 / 12, () -> allOut(), x -> x.lose(0, 11) == 1 ? x.goneShare() : -1);
        edges.answers("all lost", 1.0, () -> allOut(), x -> x.lose(0, 12) == 0 ? x.goneShare() : -1);
        edges.answers("all broken", 1.0, () -> allOut(), x -> {
            x.takeBack(0, 0, 12);
            x.breaks(0, 0, 12);
            return x.goneShare();
        });
    }

    private static BottleLoop allOut() {
        BottleLoop x = Scenes.stocked(12, 1, 5000);
        x.deliver(0, 0, 1);
        x.sell(0, 0, 12);
        return x;
    }

    /** One bottle at each place counts among all. */
    private void goneShareOfAll() {
        edges.sentence("promise 30", "divided by that of all bottles, with these");
        BottleLoop x = Scenes.busy(2, 2);
        x.collect(0, 0, 1);
        x.lose(1, 2);
        x.breaks(1, 1, 3);
        checks.same("of 400", x.goneShare(), (9 + 9 + 2 + 3) / 400.0);
    }

    // ---- promise 31

    private void digest() {
        digestOfNew();
        digestWrapsAround();
        digestOfBuffer();
        digestOfEach();
        digestOfShares();
    }

    private void digestOfNew() {
        edges.sentence("promise 31", "the hash starts at 2411; without brands and shops");
        long due = Hash.ofValues(0, 0, 0, 0, 0, 0, 0, 0, 0, 0, 0, 8, 15, 25, 150, 6, 20, -1, -1, -1, 0, 0);
        edges.answers("digest()", due, BottleLoop::new, BottleLoop::digest);
    }

    /** One brand and one shop, each value written out; 12 of 12 bottles are lost. */
    private void digestWrapsAround() {
        edges.sentence("promise 31", "31 * hash + v, in long arithmetic with overflow");
        BottleLoop x = allOut();
        x.lose(0, 12);
        long[] due = {
            1, 1, 0, 1, 246, 96, 6, 0, 0, 0, 6,
            8, 15, 25, 150, 6, 1000,
            0, 0, 0, 0, 0, 0, 0, 0, 12, 0, 12, 0, 25, 0,
            4844, 1, 0, 0, 246, 6, 12, 0, 0, 0, 0, 0, 0, 0, 0, 0, 0, 0, 0, 0, 0, 0, 0,
            -1, -1, -1, -1, Double.doubleToLongBits(1.0), 0};
        checks.same("digest()", x.digest(), Hash.ofValues(due));
    }

    private void digestOfBuffer() {
        edges.sentence("promise 31", "the length of the buffer and each of its character codes");
        BottleLoop x = new BottleLoop();
        StringBuilder text = new StringBuilder();
        for (int length = 1; length <= 60; length++) {
            char sign = length % 2 == 0 ? '!' : '~';
            x.append(sign);
            text.append(sign);
            long due = Hash.ofValues(0, 0, 0, 0, 0, 0, 0, 0, 0, 0, 0, 8, 15, 25, 150, 6, 20, -1, -1, -1, 0, length);
            for (int i = 0; i < length; i++) {
                due = 31 * due + text.charAt(i);
            }
            checks.same("with " + length, x.digest(), due);
        }
    }

    private void digestOfEach() {
        edges.sentence("promise 31", "the values are, in order: of each brand, shop and kind");
        edges.answers("varied", Hash.of(Scenes.varied(), ""), Scenes::varied, BottleLoop::digest);
        edges.answers("brand 2, shop 1", Hash.of(onlyBrand2ToShop1(), ""), EdgesWouldBeTest::onlyBrand2ToShop1,
                BottleLoop::digest);
        edges.answers("full", Hash.of(Scenes.busy(8, 6), ""), () -> Scenes.busy(8, 6), BottleLoop::digest);
        edges.answers("12 bottles", Hash.of(Scenes.returned(12), ""), () -> Scenes.returned(12), BottleLoop::digest);
    }

    private void digestOfShares() {
        edges.sentence("promise 31", "the bits of goneShare (as Double.doubleToLongBits)");
        for (int bottles : new int[] {2, 3, 7, 4999, 5000}) {
            for (int fills : new int[] {0, 1, 2}) {
                BottleLoop x = wornOut(bottles, fills);
                checks.same("digest()", x.digest(), Hash.of(x, ""));
            }
        }
    }

    // ---- all of them

    private void nothingIsChanged() {
        edges.sentence("what would be", "nothing is changed");
        looks("whyNotDeliver", x -> x.whyNotDeliver(0, 0, 1));
        looks("whyNotCollect", x -> x.whyNotCollect(0, 0, 1));
        looks("mostCrates", x -> x.mostCrates(0, 0));
        looks("collected", x -> x.collected(0, 0, 2));
        looks("filled", x -> x.filled(0, 20));
        looks("bestShop", x -> x.bestShop(0));
        looks("goneShare", BottleLoop::goneShare);
        looks("digest", BottleLoop::digest);
    }

    private void looks(String what, Edges.Act act) {
        BottleLoop x = Scenes.roomy();
        act.on(x);
        checks.same("the loop after " + what, Edges.traceOf(x), Edges.traceOf(Scenes.roomy()));
        BottleLoop y = Scenes.roomy();
        act.on(y);
        checks.same("the swaps after " + what, Edges.swapsOf(y), Edges.swapsOf(Scenes.roomy()));
    }
}
