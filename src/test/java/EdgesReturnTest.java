/** The boundary cases of promises 11 to 14, a test for each sentence that names one. */
public final class EdgesReturnTest {
    private final Checks checks = new Checks();
    private final Edges edges = new Edges(checks);

    private EdgesReturnTest() {
    }

    public static void main(String[] args) {
        EdgesReturnTest test = new EdgesReturnTest();
        test.lose();
        test.collect();
        test.sort();
        test.swap();
        test.checks.end();
    }

    // ---- promise 11

    private void lose() {
        loseBrand();
        loseMany();
        loseReason();
        loseAnswer();
        loseForfeits();
        loseOrder();
    }

    private void loseBrand() {
        edges.sentence("promise 11", "IndexOutOfBoundsException if there is no such brand");
        edges.brandsThatThereAre((x, brand) -> x.lose(brand, 1));
    }

    private void loseMany() {
        edges.sentence("promise 11", "many: 1 to 5000");
        edges.argumentFrom(1, 5000, Scenes::greatOut, (x, many) -> x.lose(0, many));
    }

    private void loseReason() {
        edges.sentence("promise 11", "IllegalStateException if there is a reason against it: bottles that are out");
        edges.answers("all of 24", 0, () -> Scenes.sold(0), x -> x.lose(0, 24));
        edges.refusesState("25 of 24", () -> Scenes.sold(0), x -> x.lose(0, 25));
        edges.refusesState("one of none of this brand", () -> Scenes.sold(0), x -> x.lose(1, 1));
        edges.refusesState("one in a shop", Scenes::greatShop, x -> x.lose(0, 1));
        edges.refusesState("one taken back", Scenes::greatReturn, x -> x.lose(0, 1));
    }

    private void loseAnswer() {
        edges.sentence("promise 11", "returns how many bottles of the brand are out then");
        edges.answers("40 of 5040", 40, Scenes::greatOut, x -> x.lose(0, 5000));
        edges.answers("without those of other brands", 11, () -> Scenes.busy(2, 2), x -> x.lose(1, 1));
    }

    private void loseForfeits() {
        edges.sentence("lose", "their deposits are forfeited, too");
        BottleLoop x = Scenes.sold(0);
        int before = x.count(4);
        int pool = x.count(6);
        x.lose(0, 24);
        checks.same("held then", x.count(4), before);
        checks.same("forfeited then", x.count(5), 192);
        checks.same("the pool then", x.count(6), pool);
    }

    private void loseOrder() {
        edges.sentence("promise 11", "of several exceptions the one that is named first");
        edges.firstNamed("lose", Scenes::empty, (x, v) -> x.lose(v[0], v[1]),
                Edges.index(0, -1, 3), Edges.argument(1, 0, 5001));
    }

    // ---- promise 12

    private void collect() {
        collectShop();
        collectKind();
        collectCrates();
        collectBottles();
        collectCratesThere();
        collectFromTheMost();
        collectFromTheLowest();
        collectPays();
        collectOrder();
    }

    private void collectShop() {
        edges.sentence("promise 12", "IndexOutOfBoundsException if there is no such shop");
        edges.shopsThatThereAre((x, shop) -> x.collect(shop, 0, 1));
    }

    /** Shop 0 has 12 empty bottles of each kind, and their crates. */
    private static BottleLoop allKinds() {
        BottleLoop x = new BottleLoop();
        x.addShop(100000);
        x.buyCrates(3);
        for (int kind = 0; kind <= 2; kind++) {
            x.addBrand(kind, 12);
            x.fill(kind, 12);
            x.deliver(kind, 0, 1);
            x.sell(0, kind, 12);
            x.takeBack(0, kind, 12);
        }
        return x;
    }

    private void collectKind() {
        edges.sentence("promise 12", "kind: 0 to 2");
        edges.argumentFrom(0, 2, EdgesReturnTest::allKinds, (x, kind) -> x.collect(0, kind, 1));
    }

    private void collectCrates() {
        edges.sentence("promise 12", "crates: 1 to 50");
        edges.argumentFrom(1, 50, Scenes::greatReturn, (x, crates) -> x.collect(0, 0, crates));
    }

    /** Shop 0 has so many empty bottles of brands 0 and 1, 12 of brand 2, of kind 1, and more crates than for them. */
    private static BottleLoop twoBrands(int first, int second) {
        BottleLoop x = new BottleLoop();
        x.set(5, 1000);
        x.addShop(100000);
        x.buyCrates(30);
        int[] empty = {first, second, 12};
        for (int brand = 0; brand < empty.length; brand++) {
            x.addBrand(brand / 2, 120);
            x.fill(brand, 120);
            x.deliver(brand, 0, 10);
            if (empty[brand] > 0) {
                x.sell(0, brand, empty[brand]);
                x.takeBack(0, brand, empty[brand]);
            }
        }
        return x;
    }

    private void collectBottles() {
        edges.sentence("promise 12", "reason 1: each crate with 12 empty bottles of a kind");
        edges.allows("12 of one brand", () -> twoBrands(12, 0), x -> x.collect(0, 0, 1));
        edges.allows("12 of the other brand", () -> twoBrands(0, 12), x -> x.collect(0, 0, 1));
        edges.allows("12 of both", () -> twoBrands(5, 7), x -> x.collect(0, 0, 1));
        edges.refusesState("11 of both", () -> twoBrands(5, 6), x -> x.collect(0, 0, 1));
        edges.refusesState("11 of one", () -> twoBrands(11, 0), x -> x.collect(0, 0, 1));
        edges.refusesState("none", () -> twoBrands(0, 0), x -> x.collect(0, 0, 1));
        edges.allows("36 of both", () -> twoBrands(35, 1), x -> x.collect(0, 0, 3));
        edges.refusesState("35 of both", () -> twoBrands(34, 1), x -> x.collect(0, 0, 3));
        edges.allows("50 crates", Scenes::greatReturn, x -> x.collect(0, 0, 50));
        edges.refusesState("50 crates, one bottle less", () -> {
            BottleLoop x = Scenes.greatReturn();
            x.breaks(0, 0, 1);
            return x;
        }, x -> x.collect(0, 0, 50));
    }

    private void collectCratesThere() {
        edges.sentence("promise 12", "reason 2: there are not enough crates in the shop");
        edges.allows("all 3", () -> Scenes.backElsewhere(36, 3), x -> x.collect(1, 0, 3));
        edges.refusesState("3 of 2", () -> Scenes.backElsewhere(36, 2), x -> x.collect(1, 0, 3));
        edges.allows("2 of 2", () -> Scenes.backElsewhere(36, 2), x -> x.collect(1, 0, 2));
        edges.refusesState("1 of none", () -> Scenes.backElsewhere(36, 0), x -> x.collect(1, 0, 1));
        edges.answers("none is left", 0, () -> Scenes.backElsewhere(36, 3), x -> {
            x.collect(1, 0, 3);
            return x.shop(1, 1);
        });
    }

    private void collected(int first, int second, int crates, int dueOfFirst) {
        edges.answers(first + " and " + second + ", of the first", dueOfFirst, () -> twoBrands(first, second), x -> {
            x.collect(0, 0, crates);
            return x.brand(0, 6);
        });
        edges.answers(first + " and " + second + ", of the second", 12 * crates - dueOfFirst,
                () -> twoBrands(first, second), x -> {
                    x.collect(0, 0, crates);
                    return x.brand(1, 6);
                });
    }

    private void collectFromTheMost() {
        edges.sentence("collect", "each time of the brand of which the shop has the most empty bottles then");
        collected(30, 0, 1, 12);
        collected(0, 30, 1, 0);
        collected(25, 13, 1, 12);
        collected(13, 25, 1, 0);
        collected(24, 12, 1, 12);
        collected(22, 12, 1, 11);
        collected(12, 22, 1, 1);
        collected(23, 13, 2, 17);
        collected(10, 2, 1, 10);
        collected(110, 118, 19, 110);
    }

    private void collectFromTheLowest() {
        edges.sentence("collect", "of several of the lowest one");
        collected(23, 12, 1, 12);
        collected(12, 23, 1, 1);
        collected(7, 7, 1, 6);
        collected(12, 13, 1, 6);
        collected(13, 12, 1, 7);
        BottleLoop x = threeBrands();
        x.collect(0, 0, 1);
        int[] due = {5, 4, 3, 0};
        for (int brand = 0; brand < due.length; brand++) {
            checks.same("of three, of brand " + brand, x.brand(brand, 6), due[brand]);
        }
    }

    /** Shop 0 has 10 empty bottles of brand 0, 10 of brand 1 and 9 of brand 2; a fourth brand is of another kind. */
    private static BottleLoop threeBrands() {
        BottleLoop x = new BottleLoop();
        x.set(5, 1000);
        x.addShop(100000);
        x.buyCrates(30);
        int[] empty = {10, 10, 9, 50};
        for (int brand = 0; brand < empty.length; brand++) {
            x.addBrand(brand / 3, 120);
            x.fill(brand, 120);
            x.deliver(brand, 0, 5);
            x.sell(0, brand, empty[brand]);
            x.takeBack(0, brand, empty[brand]);
        }
        return x;
    }

    private void collectPays() {
        edges.sentence("promise 12", "returns what the shop gets");
        for (int kind = 0; kind <= 2; kind++) {
            int k = kind;
            edges.answers("least", 12, () -> Scenes.priced(k, 1, 0, 0), x -> collectAll(x, k));
            edges.answers("most", 1700, () -> Scenes.priced(k, 100, 500, 100), x -> collectAll(x, k));
            edges.answers("nothing is held then", 0, () -> Scenes.priced(k, 100, 500, 100), x -> {
                collectAll(x, k);
                return x.count(4);
            });
        }
    }

    private static int collectAll(BottleLoop x, int kind) {
        x.deliver(0, 0, 1);
        x.sell(0, 0, 12);
        x.takeBack(0, 0, 12);
        return x.collect(0, kind, 1);
    }

    private void collectOrder() {
        edges.sentence("promise 12", "of several exceptions the one that is named first");
        edges.firstNamed("collect", Scenes::delivered, (x, v) -> x.collect(v[0], v[1], v[2]),
                Edges.index(0, -1, 2), Edges.argument(0, -1, 3), Edges.argument(1, 0, 51));
    }

    // ---- promise 13

    /** Of brand 0, 16 bottles are in the yard, of brand 1, 8; both are of kind 0. */
    private static BottleLoop yard() {
        BottleLoop x = Scenes.takenBack();
        x.collect(0, 0, 2);
        return x;
    }

    private void sort() {
        sortKind();
        sortMany();
        sortReason();
        sortLowestFirst();
        sortAnswer();
        sortOrder();
    }

    private void sortKind() {
        edges.sentence("promise 13", "kind: 0 to 2");
        edges.argumentFrom(0, 2, () -> {
            BottleLoop x = allKinds();
            for (int kind = 0; kind <= 2; kind++) {
                x.collect(0, kind, 1);
            }
            return x;
        }, (x, kind) -> x.sort(kind, 1));
    }

    private void sortMany() {
        edges.sentence("promise 13", "many: 1 to 5000");
        edges.argumentFrom(1, 5000, Scenes::greatYard, (x, many) -> x.sort(0, many));
    }

    private void sortReason() {
        edges.sentence("promise 13", "IllegalStateException if there is a reason against it: bottles in the yard");
        edges.answers("all of 24", 0, EdgesReturnTest::yard, x -> x.sort(0, 24));
        edges.refusesState("25 of 24", EdgesReturnTest::yard, x -> x.sort(0, 25));
        edges.refusesState("one of none of this kind", EdgesReturnTest::yard, x -> x.sort(1, 1));
        edges.refusesState("one of an empty yard", Scenes::takenBack, x -> x.sort(0, 1));
        edges.refusesState("one of none left", () -> {
            BottleLoop x = yard();
            x.sort(0, 24);
            return x;
        }, x -> x.sort(0, 1));
    }

    private void sorted(int many, int first, int second) {
        BottleLoop x = yard();
        int atFirst = x.brand(0, 1);
        int atSecond = x.brand(1, 1);
        x.sort(0, many);
        checks.same(many + ": of the lowest brand", x.brand(0, 1) - atFirst, first);
        checks.same(many + ": of the next one", x.brand(1, 1) - atSecond, second);
        checks.same(many + ": left of the lowest", x.brand(0, 6), 16 - first);
        checks.same(many + ": left of the next", x.brand(1, 6), 8 - second);
    }

    private void sortLowestFirst() {
        edges.sentence("sort", "those of the lowest brand first");
        sorted(1, 1, 0);
        sorted(15, 15, 0);
        sorted(16, 16, 0);
        sorted(17, 16, 1);
        sorted(24, 16, 8);
    }

    private void sortAnswer() {
        edges.sentence("promise 13", "returns how many bottles of the kind are left in the yard");
        edges.answers("of 5400", 400, Scenes::greatYard, x -> x.sort(0, 5000));
        edges.answers("without those of other kinds", 11, () -> {
            BottleLoop x = allKinds();
            x.collect(0, 0, 1);
            x.collect(0, 2, 1);
            return x;
        }, x -> x.sort(2, 1));
    }

    private void sortOrder() {
        edges.sentence("promise 13", "of several exceptions the one that is named first");
        edges.firstNamed("sort", Scenes::takenBack, (x, v) -> x.sort(v[0], v[1]),
                Edges.argument(0, -1, 3), Edges.argument(1, 0, 5001));
    }

    // ---- promise 14

    private void swap() {
        swapFrom();
        swapTo();
        swapMany();
        swapSame();
        swapKinds();
        swapReason();
        swapAnswer();
        swapOrder();
    }

    private void swapFrom() {
        edges.sentence("promise 14", "IndexOutOfBoundsException if there is no such brand to give them");
        edges.brandsThatThereAre((x, brand) -> x.swap(brand, brand == 0 ? 1 : 0, 1));
    }

    private void swapTo() {
        edges.sentence("promise 14", "IndexOutOfBoundsException if there is no such brand to get them");
        edges.brandsThatThereAre((x, brand) -> x.swap(brand == 0 ? 1 : 0, brand, 1));
    }

    private void swapMany() {
        edges.sentence("promise 14", "many: 1 to 5000");
        edges.argumentFrom(1, 5000, Scenes::great, (x, many) -> x.swap(1, 0, many));
    }

    private void swapSame() {
        edges.sentence("promise 14", "IllegalArgumentException if both are the same");
        for (int brand = 0; brand <= 2; brand++) {
            int b = brand;
            edges.refusesArgument("brand " + b, Scenes::empty, x -> x.swap(b, b, 1));
        }
    }

    private void swapKinds() {
        edges.sentence("promise 14", "IllegalArgumentException if they are not of one kind");
        edges.refusesArgument("kinds 0 and 1", Scenes::empty, x -> x.swap(0, 2, 1));
        edges.refusesArgument("kinds 1 and 0", Scenes::empty, x -> x.swap(2, 1, 1));
        edges.refusesArgument("kinds 1 and 2", EdgesReturnTest::allKinds, x -> x.swap(1, 2, 1));
        edges.allows("of one kind", Scenes::empty, x -> x.swap(1, 0, 1));
    }

    private void swapReason() {
        edges.sentence("promise 14", "IllegalStateException if there is a reason against it: empty bottles there");
        edges.answers("all of 60", 60, Scenes::empty, x -> x.swap(1, 0, 60));
        edges.refusesState("61 of 60", Scenes::empty, x -> x.swap(1, 0, 61));
        edges.refusesState("one of none, all are full", Scenes::great, x -> x.swap(0, 1, 1));
    }

    private void swapAnswer() {
        edges.sentence("promise 14", "returns how many the one has given to the other, less those it has got from it");
        BottleLoop x = Scenes.busy(3, 1);
        checks.answers("given", 5, () -> x.swap(0, 1, 5));
        checks.answers("given back", 0, () -> x.swap(1, 0, 5));
        checks.answers("more than given", 2, () -> x.swap(1, 0, 2));
        checks.answers("less than got", -1, () -> x.swap(0, 1, 1));
        checks.answers("to another one", 9, () -> x.swap(0, 2, 9));
        checks.answers("from another one", 4, () -> x.swap(1, 2, 4));
        checks.answers("from the other one", -6, () -> x.swap(2, 0, 3));
        checks.same("brand(0, 11)", x.brand(0, 11), 5 - 5 - 2 + 1 + 9 - 3);
        checks.same("brand(1, 11)", x.brand(1, 11), -5 + 5 + 2 - 1 + 4);
        checks.same("brand(2, 11)", x.brand(2, 11), -9 - 4 + 3);
    }

    private void swapOrder() {
        edges.sentence("promise 14", "of several exceptions the one that is named first");
        edges.firstNamed("swap", Scenes::empty, (x, v) -> x.swap(v[0], v[1], v[2]),
                Edges.index(1, -1, 3), Edges.index(0, -1, 3), Edges.argument(61, 0, 5001));
        edges.refusesIndex("two that there are not", Scenes::empty, x -> x.swap(3, 3, 1));
        edges.refusesArgument("the same, and too many", Scenes::empty, x -> x.swap(1, 1, 61));
        edges.refusesArgument("not of one kind, and too many", Scenes::empty, x -> x.swap(1, 2, 61));
        edges.refusesArgument("the same, and none", Scenes::empty, x -> x.swap(1, 1, 0));
    }
}
