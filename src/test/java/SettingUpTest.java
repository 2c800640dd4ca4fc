/** Promises 1 to 5: a new object, brands, shops, crates and settings. */
public final class SettingUpTest {
    private static final int[] LEAST = {1, 1, 1, 0, 0, 2};
    private static final int[] MOST = {100, 100, 100, 500, 100, 1000};
    private static final int[] FIRST = {8, 15, 25, 150, 6, 20};

    private final Checks checks = new Checks();

    private SettingUpTest() {
    }

    public static void main(String[] args) {
        SettingUpTest test = new SettingUpTest();
        test.newObject();
        test.addBrand();
        test.addShop();
        test.buyCrates();
        test.set();
        test.setWhileHeld();
        test.checks.end();
    }

    private void newObject() {
        checks.begin("promise 1");
        BottleLoop x = new BottleLoop();
        for (int what = 0; what <= 10; what++) {
            checks.same("count(" + what + ")", x.count(what), 0);
        }
        for (int setting = 0; setting < FIRST.length; setting++) {
            checks.same("setting(" + setting + ")", x.setting(setting), FIRST[setting]);
        }
        checks.refusesIndex("brand(0, 0)", () -> x.brand(0, 0));
        checks.refusesIndex("shop(0, 0)", () -> x.shop(0, 0));
        checks.refusesState("undo()", x::undo);
        checks.same("firstError()", x.firstError(), 0);
        checks.same("clearBuffer()", x.clearBuffer(), 0);
        x.addBrand(0, 7);
        checks.same("count(0) of another object", new BottleLoop().count(0), 0);
    }

    private void addBrand() {
        checks.begin("promise 2");
        BottleLoop x = new BottleLoop();
        checks.refusesArgument("kind -1", () -> x.addBrand(-1, 5));
        checks.refusesArgument("kind 3", () -> x.addBrand(3, 5));
        checks.refusesArgument("bottles -1", () -> x.addBrand(0, -1));
        checks.refusesArgument("bottles 5001", () -> x.addBrand(0, 5001));
        checks.same("saved states", x.count(10), 0);
        for (int brand = 0; brand < 8; brand++) {
            checks.same("number", x.addBrand(brand % 3, brand == 0 ? 5000 : brand - 1), brand);
            checks.same("kind", x.brand(brand, 0), brand % 3);
            checks.same("bottles", x.brand(brand, 1), brand == 0 ? 5000 : brand - 1);
            checks.same("brands", x.count(0), brand + 1);
        }
        checks.refusesState("the 9th", () -> x.addBrand(0, 5));
        checks.refusesArgument("the 9th of kind 3", () -> x.addBrand(3, 5));
        checks.same("brands", x.count(0), 8);
        x.undo();
        checks.same("brands after undo", x.count(0), 7);
        checks.same("number after undo", x.addBrand(2, 9), 7);
        checks.same("kind after undo", x.brand(7, 0), 2);
        checks.same("bottles after undo", x.brand(7, 1), 9);
    }

    private void addShop() {
        checks.begin("promise 3");
        BottleLoop x = new BottleLoop();
        checks.refusesArgument("money -1", () -> x.addShop(-1));
        checks.refusesArgument("money 100001", () -> x.addShop(100001));
        for (int shop = 0; shop < 6; shop++) {
            checks.same("number", x.addShop(20000 * shop), shop);
            checks.same("money", x.shop(shop, 0), 20000 * shop);
            checks.same("shops", x.count(1), shop + 1);
        }
        checks.refusesState("the 7th", () -> x.addShop(0));
        checks.refusesArgument("the 7th without money", () -> x.addShop(-1));
        checks.same("saved states", x.count(10), 6);
        x.undo();
        checks.same("shops after undo", x.count(1), 5);
    }

    private void buyCrates() {
        checks.begin("promise 4");
        BottleLoop x = Scenes.delivered();
        checks.refusesArgument("none", () -> x.buyCrates(0));
        checks.refusesArgument("501", () -> x.buyCrates(501));
        checks.same("500", x.buyCrates(500), 507);
        checks.refusesState("501 too many with those in shops", () -> x.buyCrates(491));
        checks.same("up to 1000", x.buyCrates(490), 997);
        checks.refusesState("one too many", () -> x.buyCrates(1));
        checks.refusesArgument("501, and too many", () -> x.buyCrates(501));
        checks.same("store", x.count(2), 997);
        x.undo();
        checks.same("store after undo", x.count(2), 507);
    }

    private void set() {
        checks.begin("promise 5");
        for (int setting = 0; setting < FIRST.length; setting++) {
            BottleLoop x = new BottleLoop();
            int s = setting;
            checks.refusesArgument("too little " + s, () -> x.set(s, LEAST[s] - 1));
            checks.refusesArgument("too much " + s, () -> x.set(s, MOST[s] + 1));
            checks.same("first " + s, x.set(s, MOST[s]), FIRST[s]);
            checks.same("most " + s, x.set(s, LEAST[s]), MOST[s]);
            checks.same("least " + s, x.setting(s), LEAST[s]);
            x.undo();
            checks.same("undone " + s, x.setting(s), MOST[s]);
        }
        BottleLoop x = new BottleLoop();
        checks.refusesIndex("-1", () -> x.set(-1, 5));
        checks.refusesIndex("6", () -> x.set(6, -1));
    }

    private void setWhileHeld() {
        BottleLoop x = Scenes.delivered();
        for (int setting = 0; setting <= 3; setting++) {
            int s = setting;
            checks.refusesState("held " + s, () -> x.set(s, 10));
            checks.refusesArgument("held and too much " + s, () -> x.set(s, 501));
        }
        checks.same("pool part while held", x.set(4, 7), 6);
        checks.same("fillings while held", x.set(5, 30), 20);
        x.sell(0, 0, 24);
        x.sell(0, 1, 12);
        x.takeBack(0, 0, 24);
        x.takeBack(0, 1, 12);
        x.collect(0, 0, 3);
        checks.same("held", x.count(4), 0);
        checks.same("deposit when nothing is held", x.set(0, 10), 8);
        BottleLoop y = Scenes.delivered();
        y.sell(0, 0, 12);
        y.lose(0, 12);
        y.sell(0, 0, 12);
        y.sell(0, 1, 12);
        y.takeBack(0, 0, 12);
        y.takeBack(0, 1, 12);
        y.collect(0, 0, 2);
        checks.same("forfeited", y.count(5), 96);
        checks.refusesState("deposit while some is forfeited", () -> y.set(0, 10));
    }
}
