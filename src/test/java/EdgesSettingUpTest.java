/** The boundary cases of promises 1 to 5 and of the settings, a test for each sentence that names one. */
public final class EdgesSettingUpTest {
    private static final int[] LEAST = {1, 1, 1, 0, 0, 2};
    private static final int[] MOST = {100, 100, 100, 500, 100, 1000};
    private static final int[] FIRST = {8, 15, 25, 150, 6, 20};
    /** The settings that can be changed only while the association holds nothing. */
    private static final int[] DEPOSITS = {0, 1, 2, 3};

    private final Checks checks = new Checks();
    private final Edges edges = new Edges(checks);

    private EdgesSettingUpTest() {
    }

    public static void main(String[] args) {
        EdgesSettingUpTest test = new EdgesSettingUpTest();
        test.newObject();
        test.addBrand();
        test.addShop();
        test.buyCrates();
        test.set();
        test.checks.end();
    }

    // ---- promise 1

    private void newObject() {
        newWithoutBrands();
        newWithoutShops();
        newWithoutCrates();
        newWithEmptyBuffer();
        newHoldsNothing();
        newSettings();
        newWithoutSavedStates();
        newApartFromOthers();
    }

    private void newWithoutBrands() {
        edges.sentence("promise 1", "a loop without brands");
        edges.answers("count(0)", 0, BottleLoop::new, x -> x.count(0));
        edges.refusesIndex("brand 0", BottleLoop::new, x -> x.brand(0, 0));
    }

    private void newWithoutShops() {
        edges.sentence("promise 1", "a loop without shops");
        edges.answers("count(1)", 0, BottleLoop::new, x -> x.count(1));
        edges.refusesIndex("shop 0", BottleLoop::new, x -> x.shop(0, 0));
    }

    private void newWithoutCrates() {
        edges.sentence("promise 1", "with no crates");
        edges.answers("count(2)", 0, BottleLoop::new, x -> x.count(2));
        edges.answers("count(3)", 0, BottleLoop::new, x -> x.count(3));
        edges.answers("the first crate", 1, BottleLoop::new, x -> x.buyCrates(1));
    }

    private void newWithEmptyBuffer() {
        edges.sentence("promise 1", "with an empty buffer");
        edges.answers("clearBuffer()", 0, BottleLoop::new, x -> x.clearBuffer());
        edges.answers("the first character", 1, BottleLoop::new, x -> x.append('d'));
    }

    private void newHoldsNothing() {
        edges.sentence("terms", "at first the association has nothing");
        for (int what = 4; what <= 6; what++) {
            int w = what;
            edges.answers("count(" + w + ")", 0, BottleLoop::new, x -> x.count(w));
        }
    }

    private void newSettings() {
        edges.sentence("settings", "at first 8, 15 and 25; 150; 6; 20");
        for (int setting = 0; setting < FIRST.length; setting++) {
            int s = setting;
            edges.answers("setting(" + s + ")", FIRST[s], BottleLoop::new, x -> x.setting(s));
        }
    }

    private void newWithoutSavedStates() {
        edges.sentence("promise 1", "nothing is saved yet");
        edges.answers("count(10)", 0, BottleLoop::new, x -> x.count(10));
        edges.refusesState("undo()", BottleLoop::new, BottleLoop::undo);
    }

    private void newApartFromOthers() {
        edges.sentence("promise 1", "a loop is made anew, whatever was done with others");
        long before = new BottleLoop().digest();
        Scenes.write(Scenes.greatYard(), "d0>0*1");
        checks.same("digest()", new BottleLoop().digest(), before);
    }

    // ---- promise 2

    private static BottleLoop brands(int many) {
        BottleLoop x = new BottleLoop();
        for (int i = 0; i < many; i++) {
            x.addBrand(i % 3, i);
        }
        return x;
    }

    private void addBrand() {
        brandKind();
        brandBottles();
        brandNumber();
        brandsFull();
        brandOrder();
    }

    private void brandKind() {
        edges.sentence("promise 2", "kind: 0 to 2");
        edges.argumentFrom(0, 2, BottleLoop::new, (x, kind) -> x.addBrand(kind, 10));
        for (int kind = 0; kind <= 2; kind++) {
            int k = kind;
            edges.answers("its kind", k, BottleLoop::new, x -> x.brand(x.addBrand(k, 10), 0));
        }
    }

    private void brandBottles() {
        edges.sentence("promise 2", "bottles: its empty bottles at the brewery, 0 to 5000");
        edges.argumentFrom(0, 5000, BottleLoop::new, (x, bottles) -> x.addBrand(0, bottles));
        edges.answers("none", 0, BottleLoop::new, x -> x.brand(x.addBrand(2, 0), 1));
        edges.answers("5000", 5000, BottleLoop::new, x -> x.brand(x.addBrand(2, 5000), 1));
    }

    private void brandNumber() {
        edges.sentence("promise 2", "returns its number");
        edges.answers("the first", 0, BottleLoop::new, x -> x.addBrand(2, 5));
        edges.answers("the eighth", 7, () -> brands(7), x -> x.addBrand(0, 5));
    }

    private void brandsFull() {
        edges.sentence("promise 2", "IllegalStateException if there are 8 brands");
        edges.allows("the eighth", () -> brands(7), x -> x.addBrand(0, 0));
        edges.refusesState("the ninth", () -> brands(8), x -> x.addBrand(0, 0));
        BottleLoop x = brands(8);
        x.undo();
        checks.answers("the eighth again", 7, () -> x.addBrand(1, 5000));
        checks.refusesState("the ninth again", () -> x.addBrand(1, 5000));
    }

    private void brandOrder() {
        edges.sentence("promise 2", "of several exceptions the one that is named first");
        edges.firstNamed("addBrand", () -> brands(8), (x, v) -> x.addBrand(v[0], v[1]),
                Edges.argument(0, -1, 3), Edges.argument(9, -1, 5001));
    }

    // ---- promise 3

    private static BottleLoop shops(int many) {
        BottleLoop x = new BottleLoop();
        for (int i = 0; i < many; i++) {
            x.addShop(i);
        }
        return x;
    }

    private void addShop() {
        shopMoney();
        shopNumber();
        shopsFull();
        shopOrder();
    }

    private void shopMoney() {
        edges.sentence("promise 3", "money: 0 to 100000");
        edges.argumentFrom(0, 100000, BottleLoop::new, BottleLoop::addShop);
        edges.answers("none", 0, BottleLoop::new, x -> x.shop(x.addShop(0), 0));
        edges.answers("100000", 100000, BottleLoop::new, x -> x.shop(x.addShop(100000), 0));
    }

    private void shopNumber() {
        edges.sentence("promise 3", "returns its number");
        edges.answers("the first", 0, BottleLoop::new, x -> x.addShop(5));
        edges.answers("the sixth", 5, () -> shops(5), x -> x.addShop(5));
    }

    private void shopsFull() {
        edges.sentence("promise 3", "IllegalStateException if there are 6 shops");
        edges.allows("the sixth", () -> shops(5), x -> x.addShop(0));
        edges.refusesState("the seventh", () -> shops(6), x -> x.addShop(0));
        BottleLoop x = shops(6);
        x.undo();
        checks.answers("the sixth again", 5, () -> x.addShop(100000));
        checks.refusesState("the seventh again", () -> x.addShop(100000));
    }

    private void shopOrder() {
        edges.sentence("promise 3", "of several exceptions the one that is named first");
        edges.firstNamed("addShop", () -> shops(6), (x, v) -> x.addShop(v[0]), Edges.argument(9, -1, 100001));
    }

    // ---- promise 4

    /** So many crates in the store, and so many more in shop 0 with bottles of brand 0. */
    private static BottleLoop crates(int inStore, int inShop) {
        BottleLoop x = Scenes.stocked(12 * inShop, 0, 50000);
        for (int left = inStore + inShop; left > 0; left -= 500) {
            x.buyCrates(Math.min(left, 500));
        }
        if (inShop > 0) {
            x.deliver(0, 0, inShop);
        }
        return x;
    }

    private void buyCrates() {
        cratesMany();
        cratesAnswer();
        cratesFullInStore();
        cratesFullWithThoseInShops();
        cratesOrder();
    }

    private void cratesMany() {
        edges.sentence("promise 4", "many: 1 to 500");
        edges.argumentFrom(1, 500, BottleLoop::new, BottleLoop::buyCrates);
    }

    private void cratesAnswer() {
        edges.sentence("promise 4", "returns how many there are in the store then");
        edges.answers("with those in the store", 13, () -> crates(3, 0), x -> x.buyCrates(10));
        edges.answers("without those in shops", 13, () -> crates(3, 7), x -> x.buyCrates(10));
    }

    private void cratesFullInStore() {
        edges.sentence("promise 4", "IllegalStateException if there would be more than 1000 crates, in the store");
        edges.answers("up to 1000", 1000, () -> crates(500, 0), x -> x.buyCrates(500));
        edges.answers("up to 1000 by one", 1000, () -> crates(999, 0), x -> x.buyCrates(1));
        edges.refusesState("up to 1001", () -> crates(501, 0), x -> x.buyCrates(500));
        edges.refusesState("one to 1000", () -> crates(1000, 0), x -> x.buyCrates(1));
    }

    private void cratesFullWithThoseInShops() {
        edges.sentence("promise 4", "IllegalStateException if there would be more than 1000 crates, also in shops");
        edges.answers("up to 1000", 993, () -> crates(983, 7), x -> x.buyCrates(10));
        edges.refusesState("up to 1001", () -> crates(983, 7), x -> x.buyCrates(11));
        edges.refusesState("one to 1000", () -> crates(950, 50), x -> x.buyCrates(1));
    }

    private void cratesOrder() {
        edges.sentence("promise 4", "of several exceptions the one that is named first");
        edges.firstNamed("buyCrates", () -> crates(990, 10), (x, v) -> x.buyCrates(v[0]),
                Edges.argument(1, 0, -1, 501));
    }

    // ---- promise 5

    private void set() {
        setSetting();
        setBottleDeposits();
        setCrateDeposit();
        setPoolPart();
        setFillings();
        setAnswer();
        setWhileHeld();
        setWhileForfeited();
        setWhenNothingIsHeldAgain();
        setOthersWhileHeld();
        setOrder();
    }

    private void setSetting() {
        edges.sentence("promise 5", "setting: 0 to 5");
        edges.indexFrom(0, 5, BottleLoop::new, (x, setting) -> x.set(setting, 50));
    }

    private void valuesOf(int setting) {
        edges.argumentFrom(LEAST[setting], MOST[setting], BottleLoop::new, (x, value) -> x.set(setting, value));
    }

    private void setBottleDeposits() {
        edges.sentence("settings", "0, 1, 2: the deposit for a bottle of the kind 0, 1, 2, 1 to 100");
        valuesOf(0);
        valuesOf(1);
        valuesOf(2);
    }

    private void setCrateDeposit() {
        edges.sentence("settings", "3: that for a crate, 0 to 500");
        valuesOf(3);
    }

    private void setPoolPart() {
        edges.sentence("settings", "4: what is paid into the pool for a crate, 0 to 100");
        valuesOf(4);
    }

    private void setFillings() {
        edges.sentence("settings", "5: how many fillings wear out one bottle, 2 to 1000");
        valuesOf(5);
    }

    private void setAnswer() {
        edges.sentence("promise 5", "returns the previous value");
        for (int setting = 0; setting < FIRST.length; setting++) {
            int s = setting;
            BottleLoop x = new BottleLoop();
            checks.answers("the first one", FIRST[s], () -> x.set(s, LEAST[s]));
            checks.answers("the least", LEAST[s], () -> x.set(s, LEAST[s]));
            checks.answers("the least again", LEAST[s], () -> x.set(s, MOST[s]));
            checks.answers("the most", MOST[s], () -> x.setting(s));
        }
    }

    /** What is held is the least that can be: for one crate without a deposit and 12 bottles for 1 each. */
    private static BottleLoop littleHeld() {
        BottleLoop x = Scenes.great();
        x.deliver(0, 0, 1);
        return x;
    }

    private void refusesDeposits(String what, Edges.Scene scene) {
        for (int setting : DEPOSITS) {
            edges.refusesState(what + ", " + setting, scene, x -> x.set(setting, 10));
            edges.refusesState(what + ", the same value", scene, x -> x.set(setting, x.setting(setting)));
        }
    }

    private void setWhileHeld() {
        edges.sentence("promise 5", "IllegalStateException if setting is 0 to 3, and the association holds something");
        edges.answers("held", 12, EdgesSettingUpTest::littleHeld, x -> x.count(4));
        refusesDeposits("12 are held", EdgesSettingUpTest::littleHeld);
    }

    /** All but one bottle, which is lost or broken, come back; but crates without bottles are not collected. */
    private static BottleLoop oneForfeited(boolean broken) {
        BottleLoop x = Scenes.great();
        x.deliver(0, 0, 2);
        x.sell(0, 0, 24);
        x.takeBack(0, 0, 23);
        if (broken) {
            x.takeBack(0, 0, 1);
            x.breaks(0, 0, 1);
        } else {
            x.lose(0, 1);
        }
        x.collect(0, 0, 1);
        return x;
    }

    /** All 12 bottles of a crate are lost, and 12 others come back in it. */
    private static BottleLoop onlyForfeited() {
        BottleLoop x = Scenes.great();
        x.deliver(0, 0, 1);
        x.deliver(0, 1, 1);
        x.sell(0, 0, 12);
        x.sell(1, 0, 12);
        x.lose(0, 12);
        x.takeBack(0, 0, 12);
        x.collect(0, 0, 1);
        return x;
    }

    private void setWhileForfeited() {
        edges.sentence("settings", "only while the association holds nothing, not even what is forfeited");
        refusesDeposits("one lost", () -> oneForfeited(false));
        refusesDeposits("one broken", () -> oneForfeited(true));
        edges.answers("held", 12, EdgesSettingUpTest::onlyForfeited, x -> x.count(4));
        edges.answers("forfeited", 12, EdgesSettingUpTest::onlyForfeited, x -> x.count(5));
        refusesDeposits("nothing but what is forfeited", EdgesSettingUpTest::onlyForfeited);
    }

    private void setWhenNothingIsHeldAgain() {
        edges.sentence("settings", "can be changed while the association holds nothing");
        for (int setting : DEPOSITS) {
            edges.answers("all collected, " + setting, FIRST[setting], EdgesSettingUpTest::allBack,
                    x -> x.set(setting, MOST[setting]));
            edges.answers("delivery undone, " + setting, FIRST[setting], EdgesSettingUpTest::deliveryUndone,
                    x -> x.set(setting, LEAST[setting]));
        }
    }

    private static BottleLoop allBack() {
        BottleLoop x = Scenes.returned(24);
        x.collect(0, 0, 2);
        return x;
    }

    private static BottleLoop deliveryUndone() {
        BottleLoop x = Scenes.stocked(24, 2, 5000);
        x.deliver(0, 0, 2);
        x.undo();
        return x;
    }

    private void setOthersWhileHeld() {
        edges.sentence("settings", "only 0 to 3 wait until the association holds nothing");
        edges.answers("4", 0, EdgesSettingUpTest::littleHeld, x -> x.set(4, 100));
        edges.answers("5", 1000, EdgesSettingUpTest::littleHeld, x -> x.set(5, 2));
    }

    private void setOrder() {
        edges.sentence("promise 5", "of several exceptions the one that is named first");
        for (int setting : DEPOSITS) {
            edges.firstNamed("set", EdgesSettingUpTest::littleHeld, (x, v) -> x.set(v[0], v[1]),
                    Edges.index(setting, -1, 6), Edges.argument(10, LEAST[setting] - 1, MOST[setting] + 1));
        }
    }
}
