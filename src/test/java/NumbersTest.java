/** Promises 20 to 23: the numbers that there are. */
public final class NumbersTest {
    private final Checks checks = new Checks();

    private NumbersTest() {
    }

    public static void main(String[] args) {
        NumbersTest test = new NumbersTest();
        test.brand();
        test.shop();
        test.count();
        test.setting();
        test.checks.end();
    }

    /** Brand 0 and shops 0 and 1 have something of everything. */
    private static BottleLoop mixed() {
        BottleLoop x = Scenes.delivered();
        x.deliver(0, 1, 1);
        x.deliver(2, 0, 1);
        x.sell(0, 0, 20);
        x.sell(1, 0, 7);
        x.takeBack(0, 0, 15);
        x.takeBack(1, 0, 5);
        x.sell(0, 1, 3);
        x.takeBack(1, 1, 2);
        x.lose(0, 2);
        x.breaks(0, 0, 1);
        x.collect(0, 0, 1);
        x.swap(0, 1, 4);
        return x;
    }

    private void row(String what, int[] due, Numbers numbers) {
        for (int i = 0; i < due.length; i++) {
            checks.same(what + " " + i, numbers.at(i), due[i]);
        }
    }

    private interface Numbers {
        int at(int what);
    }

    private void brand() {
        checks.begin("promise 20");
        BottleLoop x = mixed();
        // 45 filled, 2 of them worn out; 36 delivered, 27 sold, 20 taken back, 2 lost, 1 broken, 12 collected, 4 swapped
        row("brand 0", new int[] {0, 51, 7, 9, 7, 5, 12, 1, 2, 2, 45, 4}, what -> x.brand(0, what));
        row("brand 1", new int[] {0, 4, 45, 9, 2, 1, 0, 0, 0, 3, 60, -4}, what -> x.brand(1, what));
        row("brand 2", new int[] {1, 1, 26, 12, 0, 0, 0, 0, 0, 1, 39, 0}, what -> x.brand(2, what));
        checks.refusesIndex("brand 3", () -> x.brand(3, 0));
        checks.refusesIndex("brand -1, 12", () -> x.brand(-1, 12));
        checks.refusesIndex("the greatest brand", () -> x.brand(Integer.MAX_VALUE, 0));
        checks.refusesArgument("-1", () -> x.brand(0, -1));
        checks.refusesArgument("12", () -> x.brand(0, 12));
        checks.refusesArgument("the least", () -> x.brand(0, Integer.MIN_VALUE));
    }

    private void shop() {
        checks.begin("promise 21");
        BottleLoop x = mixed();
        int pool0 = 3 * 6 + 6 - 8;
        int paid0 = 3 * 246 + 330 - 246;
        int money0 = 5000 - paid0 - pool0 + 20 * 8 - 15 * 8 + 3 * 8;
        row("shop 0", new int[] {money0, 3, 4 + 9 + 12, 2, paid0, pool0, 8}, what -> x.shop(0, what));
        row("shop 0, full", new int[] {4, 9, 12, 0, 0, 0, 0, 0}, brand -> x.shop(0, 10 + brand));
        row("shop 0, empty", new int[] {2, 0, 0, 0, 0, 0, 0, 0}, brand -> x.shop(0, 20 + brand));
        row("shop 1", new int[] {700 - 252 + 56 - 40 - 16, 1, 5, 7, 246, 6, 0}, what -> x.shop(1, what));
        row("shop 1, full", new int[] {5, 0, 0, 0, 0, 0, 0, 0}, brand -> x.shop(1, 10 + brand));
        row("shop 1, empty", new int[] {5, 2, 0, 0, 0, 0, 0, 0}, brand -> x.shop(1, 20 + brand));
        checks.refusesIndex("shop 2", () -> x.shop(2, 0));
        checks.refusesIndex("shop -1, 7", () -> x.shop(-1, 7));
        for (int what : new int[] {Integer.MIN_VALUE, -1, 7, 8, 9, 18, 19, 28, 29, 100, Integer.MAX_VALUE}) {
            checks.refusesArgument("" + what, () -> x.shop(0, what));
        }
    }

    private void count() {
        checks.begin("promise 22");
        BottleLoop x = mixed();
        int held = 4 * 246 + 330 - 246;
        row("count", new int[] {3, 2, 6, 4, held, 24, 22, 6, 12, 0, 6}, x::count);
        checks.refusesArgument("-1", () -> x.count(-1));
        checks.refusesArgument("11", () -> x.count(11));
        checks.refusesArgument("the greatest", () -> x.count(Integer.MAX_VALUE));
        checks.same("a run that ends by 4", Scenes.runOf(x, "s0:7*1"), "0 reason 4");
        x.fill(1, 1);
        checks.same("of the latest run", x.count(9), 4);
        checks.same("a run that ends by 1", Scenes.runOf(x, "s0:0*5"), "0 reason 1");
        x.undo();
        checks.same("undone", x.count(9), 4);
        checks.same("a run that ends by 0", Scenes.runOf(x, "s0:0*4"), "1 reason 0");
    }

    private void setting() {
        checks.begin("promise 23");
        BottleLoop x = new BottleLoop();
        row("setting", new int[] {8, 15, 25, 150, 6, 20}, x::setting);
        for (int setting = 0; setting < 6; setting++) {
            x.set(setting, 30 + setting);
        }
        row("setting", new int[] {30, 31, 32, 33, 34, 35}, x::setting);
        checks.refusesIndex("-1", () -> x.setting(-1));
        checks.refusesIndex("6", () -> x.setting(6));
        checks.refusesIndex("the greatest", () -> x.setting(Integer.MAX_VALUE));
    }
}
