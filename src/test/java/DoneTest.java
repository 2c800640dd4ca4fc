/** Promises 6 to 14: what is done. */
public final class DoneTest {
    private final Checks checks = new Checks();

    private DoneTest() {
    }

    public static void main(String[] args) {
        DoneTest test = new DoneTest();
        test.fill();
        test.fillWears();
        test.deliver();
        test.deliverReasons();
        test.sell();
        test.takeBack();
        test.breaks();
        test.breaksEmptyPool();
        test.lose();
        test.collect();
        test.collectPicks();
        test.sort();
        test.swap();
        test.checks.end();
    }

    /** A call that is refused leaves the hash, which is of the whole state. */
    private void refused(BottleLoop x, String kind, String what, Checks.Call call) {
        long before = x.digest();
        checks.answers(what, "throws." + kind, call);
        checks.same("state after refused " + what, x.digest(), before);
    }

    /** The hash would differ after undo, if the oldest saved state was dropped; the picture does not. */
    private void undone(BottleLoop x, String what, Checks.Call call) {
        String before = Scenes.picture(x);
        checks.answers(what + " changes", true, () -> call.answer() != null && !Scenes.picture(x).equals(before));
        x.undo();
        checks.same("state after undone " + what, Scenes.picture(x), before);
    }

    private void index(BottleLoop x, String what, Checks.Call call) {
        refused(x, "IndexOutOfBoundsException", what, call);
    }

    private void argument(BottleLoop x, String what, Checks.Call call) {
        refused(x, "IllegalArgumentException", what, call);
    }

    private void state(BottleLoop x, String what, Checks.Call call) {
        refused(x, "IllegalStateException", what, call);
    }

    private void brandIs(BottleLoop x, int brand, int what, int due) {
        checks.same("brand(" + brand + ", " + what + ")", x.brand(brand, what), due);
    }

    private void shopIs(BottleLoop x, int shop, int what, int due) {
        checks.same("shop(" + shop + ", " + what + ")", x.shop(shop, what), due);
    }

    private void countIs(BottleLoop x, int what, int due) {
        checks.same("count(" + what + ")", x.count(what), due);
    }

    private void fill() {
        checks.begin("promise 6");
        BottleLoop x = Scenes.empty();
        index(x, "brand -1", () -> x.fill(-1, 1));
        index(x, "brand 3, none", () -> x.fill(3, 0));
        argument(x, "none", () -> x.fill(0, 0));
        argument(x, "5001", () -> x.fill(0, 5001));
        state(x, "101 of 100", () -> x.fill(0, 101));
        state(x, "5000 of 100", () -> x.fill(0, 5000));
        checks.same("19", x.fill(0, 19), 19);
        checks.same("the 20th", x.fill(0, 1), 0);
        checks.same("the rest", x.fill(0, 80), 76);
        brandIs(x, 0, 1, 0);
        brandIs(x, 0, 2, 95);
        brandIs(x, 0, 9, 5);
        brandIs(x, 0, 10, 100);
        brandIs(x, 1, 10, 0);
        state(x, "one of none", () -> x.fill(0, 1));
        undone(x, "fill", () -> x.fill(1, 1));
    }

    private void fillWears() {
        BottleLoop x = new BottleLoop();
        x.addBrand(2, 5000);
        x.set(5, 1000);
        checks.same("999 of 1000", x.fill(0, 999), 999);
        x.set(5, 2);
        checks.same("the 1000th, of 2", x.fill(0, 1), 0);
        checks.same("1001st to 1003rd", x.fill(0, 3), 2);
        x.set(5, 7);
        checks.same("1004th to 1007th, of 7", x.fill(0, 4), 4);
        checks.same("1008th", x.fill(0, 1), 0);
        brandIs(x, 0, 9, 3);
        brandIs(x, 0, 10, 1008);
        brandIs(x, 0, 1, 3992);
        brandIs(x, 0, 2, 1005);
        BottleLoop y = new BottleLoop();
        y.addBrand(0, 5000);
        checks.same("5000", y.fill(0, 5000), 4750);
    }

    private void deliver() {
        checks.begin("promise 7");
        BottleLoop x = Scenes.filled();
        checks.same("3 of kind 0", x.deliver(0, 0, 3), 756);
        checks.same("2 of kind 1", x.deliver(2, 1, 2), 672);
        brandIs(x, 0, 2, 7);
        brandIs(x, 0, 3, 36);
        brandIs(x, 2, 2, 14);
        shopIs(x, 0, 0, 4244);
        shopIs(x, 0, 1, 3);
        shopIs(x, 0, 4, 738);
        shopIs(x, 0, 5, 18);
        shopIs(x, 0, 10, 36);
        shopIs(x, 1, 0, 28);
        shopIs(x, 1, 12, 24);
        countIs(x, 2, 5);
        countIs(x, 3, 5);
        countIs(x, 4, 738 + 660);
        countIs(x, 5, 0);
        countIs(x, 6, 30);
        undone(x, "deliver", () -> x.deliver(1, 0, 1));
    }

    private void deliverReasons() {
        BottleLoop x = Scenes.filled();
        index(x, "brand 3", () -> x.deliver(3, 0, 0));
        index(x, "brand -1", () -> x.deliver(-1, 0, 1));
        index(x, "shop 2", () -> x.deliver(0, 2, 1));
        index(x, "shop -1", () -> x.deliver(0, -1, 51));
        argument(x, "none", () -> x.deliver(0, 0, 0));
        argument(x, "51", () -> x.deliver(0, 0, 51));
        state(x, "4 of 43 bottles", () -> x.deliver(0, 0, 4));
        state(x, "3 with money for 2", () -> x.deliver(0, 1, 3));
        BottleLoop y = new BottleLoop();
        y.addBrand(0, 40);
        y.addShop(504);
        y.addShop(251);
        y.buyCrates(2);
        y.fill(0, 39);
        state(y, "3 with 2 crates", () -> y.deliver(0, 0, 3));
        state(y, "1 with money for all but one", () -> y.deliver(0, 1, 1));
        checks.same("all of its money", y.deliver(0, 0, 2), 504);
        shopIs(y, 0, 0, 0);
    }

    private void sell() {
        checks.begin("promise 8");
        BottleLoop x = Scenes.delivered();
        index(x, "shop 2", () -> x.sell(2, 0, 1));
        index(x, "shop -1", () -> x.sell(-1, 0, 0));
        index(x, "brand 3", () -> x.sell(0, 3, 501));
        index(x, "brand -1", () -> x.sell(0, -1, 1));
        argument(x, "none", () -> x.sell(0, 0, 0));
        argument(x, "501", () -> x.sell(0, 0, 501));
        state(x, "25 of 24", () -> x.sell(0, 0, 25));
        state(x, "in the other shop", () -> x.sell(1, 0, 1));
        checks.same("24", x.sell(0, 0, 24), 4244 + 192);
        brandIs(x, 0, 3, 0);
        brandIs(x, 0, 5, 24);
        shopIs(x, 0, 6, 24);
        shopIs(x, 0, 2, 12);
        shopIs(x, 0, 4, 738);
        countIs(x, 7, 24);
        countIs(x, 4, 738);
        undone(x, "sell", () -> x.sell(0, 1, 12));
    }

    private void takeBack() {
        checks.begin("promise 9");
        BottleLoop x = Scenes.delivered();
        x.sell(0, 0, 24);
        index(x, "shop 2", () -> x.takeBack(2, 0, 1));
        index(x, "shop -1", () -> x.takeBack(-1, 0, 0));
        index(x, "brand 3", () -> x.takeBack(0, 3, 501));
        index(x, "brand -1", () -> x.takeBack(0, -1, 1));
        argument(x, "none", () -> x.takeBack(0, 0, 0));
        argument(x, "501", () -> x.takeBack(0, 0, 501));
        state(x, "25 of 24", () -> x.takeBack(0, 0, 25));
        state(x, "of a brand of which none are out", () -> x.takeBack(0, 1, 1));
        checks.same("in the other shop", x.takeBack(1, 0, 20), 540);
        checks.same("in the same shop", x.takeBack(0, 0, 3), 4436 - 24);
        brandIs(x, 0, 4, 23);
        brandIs(x, 0, 5, 1);
        shopIs(x, 1, 6, -20);
        shopIs(x, 0, 6, 21);
        shopIs(x, 1, 20, 20);
        shopIs(x, 1, 3, 20);
        shopIs(x, 1, 4, 0);
        countIs(x, 7, 1);
        undone(x, "takeBack", () -> x.takeBack(0, 0, 1));
        BottleLoop y = Scenes.delivered();
        y.addShop(79);
        y.sell(0, 0, 24);
        state(y, "10 with money for less", () -> y.takeBack(2, 0, 10));
        checks.same("9", y.takeBack(2, 0, 9), 7);
        BottleLoop z = Scenes.delivered();
        z.addShop(80);
        z.sell(0, 0, 24);
        checks.same("all of its money", z.takeBack(2, 0, 10), 0);
    }

    private void breaks() {
        checks.begin("promise 10");
        BottleLoop x = Scenes.takenBack();
        index(x, "shop 2", () -> x.breaks(2, 0, 1));
        index(x, "shop -1", () -> x.breaks(-1, 0, 0));
        index(x, "brand 3", () -> x.breaks(0, 3, 501));
        index(x, "brand -1", () -> x.breaks(0, -1, 1));
        argument(x, "none", () -> x.breaks(0, 0, 0));
        argument(x, "501", () -> x.breaks(0, 0, 501));
        state(x, "21 of 20", () -> x.breaks(0, 0, 21));
        state(x, "in the other shop", () -> x.breaks(1, 0, 1));
        checks.same("2 from a pool of 18", x.breaks(0, 0, 2), 16);
        shopIs(x, 0, 0, 4244 + 32 * 8 - 32 * 8 + 16);
        shopIs(x, 0, 5, 2);
        shopIs(x, 0, 20, 18);
        brandIs(x, 0, 7, 2);
        brandIs(x, 0, 4, 18);
        countIs(x, 4, 738);
        countIs(x, 5, 16);
        countIs(x, 6, 2);
        undone(x, "breaks", () -> x.breaks(0, 1, 1));
    }

    private void breaksEmptyPool() {
        BottleLoop x = Scenes.takenBack();
        checks.same("3 from a pool of 18", x.breaks(0, 0, 3), 18);
        checks.same("1 from an empty pool", x.breaks(0, 1, 1), 0);
        shopIs(x, 0, 0, 4262);
        shopIs(x, 0, 5, 0);
        countIs(x, 5, 32);
        countIs(x, 6, 0);
    }

    private void lose() {
        checks.begin("promise 11");
        BottleLoop x = Scenes.delivered();
        x.sell(0, 0, 20);
        index(x, "brand 3", () -> x.lose(3, 0));
        index(x, "brand -1", () -> x.lose(-1, 1));
        argument(x, "none", () -> x.lose(0, 0));
        argument(x, "5001", () -> x.lose(0, 5001));
        state(x, "21 of 20", () -> x.lose(0, 21));
        state(x, "of another brand", () -> x.lose(1, 1));
        checks.same("15", x.lose(0, 15), 5);
        brandIs(x, 0, 5, 5);
        brandIs(x, 0, 8, 15);
        countIs(x, 4, 738);
        countIs(x, 5, 120);
        countIs(x, 6, 18);
        checks.same("all", x.lose(0, 5), 0);
        x.sell(0, 1, 7);
        undone(x, "lose", () -> x.lose(1, 3));
    }

    private void collect() {
        checks.begin("promise 12");
        BottleLoop x = Scenes.takenBack();
        index(x, "shop 2", () -> x.collect(2, 0, 0));
        index(x, "shop -1", () -> x.collect(-1, 3, 1));
        argument(x, "kind 3", () -> x.collect(0, 3, 1));
        argument(x, "kind -1", () -> x.collect(0, -1, 1));
        argument(x, "none", () -> x.collect(0, 0, 0));
        argument(x, "51", () -> x.collect(0, 0, 51));
        state(x, "3 of 32 bottles", () -> x.collect(0, 0, 3));
        state(x, "of another kind", () -> x.collect(0, 1, 1));
        checks.same("2", x.collect(0, 0, 2), 492);
        shopIs(x, 0, 0, 4244 + 492);
        shopIs(x, 0, 1, 1);
        shopIs(x, 0, 4, 246);
        shopIs(x, 0, 20, 4);
        shopIs(x, 0, 21, 4);
        brandIs(x, 0, 6, 16);
        brandIs(x, 1, 6, 8);
        brandIs(x, 0, 4, 4);
        countIs(x, 2, 9);
        countIs(x, 3, 1);
        countIs(x, 4, 246);
        countIs(x, 8, 24);
        BottleLoop y = Scenes.takenBack();
        undone(y, "collect", () -> y.collect(0, 0, 1));
        y.sell(0, 0, 4);
        y.deliver(0, 0, 1);
        y.sell(0, 0, 8);
        y.takeBack(1, 0, 12);
        state(y, "without a crate", () -> y.collect(1, 0, 1));
        BottleLoop z = Scenes.filled();
        z.deliver(2, 0, 1);
        z.sell(0, 2, 12);
        z.takeBack(0, 2, 12);
        checks.same("of kind 1", z.collect(0, 1, 1), 330);
        countIs(z, 4, 0);
    }

    private void collectPicks() {
        BottleLoop x = Scenes.takenBack();
        x.collect(0, 0, 1);
        shopIs(x, 0, 20, 10);
        shopIs(x, 0, 21, 10);
        BottleLoop y = new BottleLoop();
        y.addBrand(1, 0);
        for (int brand = 1; brand <= 3; brand++) {
            y.addBrand(0, 12);
            y.fill(brand, 12);
        }
        y.addShop(9000);
        y.buyCrates(3);
        for (int brand = 1; brand <= 3; brand++) {
            int many = brand == 3 ? 4 : 5;
            y.deliver(brand, 0, 1);
            y.sell(0, brand, many);
            y.takeBack(0, brand, many);
        }
        y.collect(0, 0, 1);
        brandIs(y, 0, 6, 0);
        brandIs(y, 1, 6, 5);
        brandIs(y, 2, 6, 4);
        brandIs(y, 3, 6, 3);
    }

    private void sort() {
        checks.begin("promise 13");
        BottleLoop x = Scenes.takenBack();
        x.collect(0, 0, 2);
        argument(x, "kind 3", () -> x.sort(3, 1));
        argument(x, "kind -1", () -> x.sort(-1, 1));
        argument(x, "none", () -> x.sort(0, 0));
        argument(x, "5001", () -> x.sort(0, 5001));
        state(x, "25 of 24", () -> x.sort(0, 25));
        state(x, "of another kind", () -> x.sort(1, 1));
        undone(x, "sort", () -> x.sort(0, 24));
        checks.same("20", x.sort(0, 20), 4);
        brandIs(x, 0, 6, 0);
        brandIs(x, 1, 6, 4);
        brandIs(x, 0, 1, 71);
        brandIs(x, 1, 1, 4);
        countIs(x, 8, 4);
        checks.same("one", x.sort(0, 1), 3);
        checks.same("the rest", x.sort(0, 3), 0);
        brandIs(x, 1, 1, 8);
    }

    private void swap() {
        checks.begin("promise 14");
        BottleLoop x = Scenes.empty();
        x.addBrand(0, 9);
        index(x, "from -1", () -> x.swap(-1, 0, 0));
        index(x, "from 4", () -> x.swap(4, 0, 1));
        index(x, "to 4", () -> x.swap(0, 4, 1));
        index(x, "to -1", () -> x.swap(0, -1, 5001));
        index(x, "the same that there is not", () -> x.swap(4, 4, 1));
        argument(x, "the same", () -> x.swap(0, 0, 1));
        argument(x, "another kind", () -> x.swap(0, 2, 1));
        argument(x, "none", () -> x.swap(0, 1, 0));
        argument(x, "5001", () -> x.swap(0, 1, 5001));
        state(x, "101 of 100", () -> x.swap(0, 1, 101));
        checks.same("30", x.swap(0, 1, 30), 30);
        checks.same("50 back", x.swap(1, 0, 50), 20);
        checks.same("5 more", x.swap(0, 1, 5), -15);
        checks.same("10 to another one", x.swap(0, 3, 10), 10);
        brandIs(x, 0, 1, 105);
        brandIs(x, 1, 1, 45);
        brandIs(x, 3, 1, 19);
        brandIs(x, 0, 11, -5);
        brandIs(x, 1, 11, 15);
        brandIs(x, 3, 11, -10);
        undone(x, "swap", () -> x.swap(3, 0, 19));
        checks.same("after undo", x.swap(3, 0, 19), 9);
    }
}
