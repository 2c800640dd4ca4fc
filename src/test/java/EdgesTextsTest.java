/** The boundary cases of promises 15 to 18 and of the input text, a test for each sentence that names one. */
public final class EdgesTextsTest {
    private static final String DIGITS = "0123456789";
    /** Eight orders of 7 or 8 signs with a semicolon behind each but the last: just 60 signs. */
    private static final String FULL_ROW = "d0>0*1;d0>0*1;s0:0*1;s0:0*10;s0:0*10;r0:0*10;b0:0*10;c0:0*10";

    private final Checks checks = new Checks();
    private final Edges edges = new Edges(checks);

    private EdgesTextsTest() {
    }

    public static void main(String[] args) {
        EdgesTextsTest test = new EdgesTextsTest();
        test.append();
        test.clearBuffer();
        test.grammar();
        test.numbers();
        test.firstError();
        test.run();
        test.runReasons();
        test.checks.end();
    }

    private static BottleLoop written(BottleLoop x, String text) {
        Scenes.write(x, text);
        return x;
    }

    private static BottleLoop written(String text) {
        return written(new BottleLoop(), text);
    }

    private static String signs(int many) {
        return "~".repeat(many);
    }

    // ---- promise 15

    private void append() {
        appendCode();
        appendLength();
        appendFull();
        appendOrder();
        appendSavesNothing();
    }

    private void appendCode() {
        edges.sentence("promise 15", "code: the character code, 33 to 126");
        edges.argumentFrom(33, 126, BottleLoop::new, BottleLoop::append);
        edges.argumentFrom(33, 126, () -> written(signs(59)), BottleLoop::append);
    }

    private void appendLength() {
        edges.sentence("promise 15", "returns the new length of the buffer");
        edges.answers("the first", 1, BottleLoop::new, x -> x.append('!'));
        edges.answers("the 60th", 60, () -> written(signs(59)), x -> x.append('!'));
        edges.answers("the first again", 1, () -> {
            BottleLoop x = written(signs(60));
            x.clearBuffer();
            return x;
        }, x -> x.append('!'));
    }

    private void appendFull() {
        edges.sentence("promise 15", "IllegalStateException if the buffer has 60 characters");
        edges.allows("the 60th", () -> written(signs(59)), x -> x.append('d'));
        edges.refusesState("the 61st", () -> written(signs(60)), x -> x.append('d'));
        edges.refusesState("the 61st, of a row of orders", () -> written(FULL_ROW), x -> x.append(';'));
    }

    private void appendOrder() {
        edges.sentence("promise 15", "of several exceptions the one that is named first");
        edges.firstNamed("append", () -> written(signs(60)), (x, v) -> x.append(v[0]), Edges.argument('d', 32, 127));
    }

    private void appendSavesNothing() {
        edges.sentence("promise 15", "append is not marked undoable");
        BottleLoop x = written("d");
        checks.same("count(10)", x.count(10), 0);
    }

    // ---- promise 16

    private void clearBuffer() {
        clearLength();
        clearEmpties();
        clearSavesNothing();
    }

    private void clearLength() {
        edges.sentence("promise 16", "returns the length that it had");
        edges.answers("empty", 0, BottleLoop::new, BottleLoop::clearBuffer);
        edges.answers("one", 1, () -> written("d"), BottleLoop::clearBuffer);
        edges.answers("full", 60, () -> written(signs(60)), BottleLoop::clearBuffer);
    }

    private void clearEmpties() {
        edges.sentence("promise 16", "clears the buffer");
        BottleLoop x = written(signs(60));
        x.clearBuffer();
        checks.same("digest()", x.digest(), new BottleLoop().digest());
        checks.same("clearBuffer() again", x.clearBuffer(), 0);
        checks.same("firstError()", x.firstError(), 0);
    }

    private void clearSavesNothing() {
        edges.sentence("promise 16", "clearBuffer is not marked undoable");
        BottleLoop x = written("d");
        x.clearBuffer();
        checks.same("count(10)", x.count(10), 0);
    }

    // ---- input text: which characters can follow

    /** Every character that can be appended is tried behind the start: just those that are due are no error. */
    private void follows(String start, String due) {
        StringBuilder right = new StringBuilder();
        for (int code = 33; code <= 126; code++) {
            BottleLoop x = written(start + (char) code);
            int error = x.firstError();
            if (error == start.length() + 1) {
                right.append((char) code);
            } else {
                checks.same("firstError() of " + start + (char) code, error, start.length());
            }
        }
        checks.same("what can follow " + start, right, due);
    }

    private static String digitsBelow(int bound) {
        return DIGITS.substring(0, bound);
    }

    private void grammar() {
        orderBegins();
        deliverText();
        sellText();
        takeBackText();
        breakText();
        collectText();
    }

    private void orderBegins() {
        edges.sentence("input text", "an order is d, s, r, b or c ..");
        follows("", "bcdrs");
        follows("d0>0*1;", "bcdrs");
        follows("s0:0*500;c0:0*50;", "bcdrs");
    }

    private void deliverText() {
        edges.sentence("input text", "d, the digit of a brand, >, the digit of a shop, *, the number of crates");
        follows("d", digitsBelow(8));
        follows("d0", ">");
        follows("d7", ">");
        follows("d7>", digitsBelow(6));
        follows("d7>0", "*");
        follows("d7>5", "*");
        follows("d7>5*", "123456789");
    }

    /** A letter, the digit of a shop, a colon, another digit, a star and a number. */
    private void shopText(String letter, int seconds) {
        follows(letter, digitsBelow(6));
        follows(letter + "0", ":");
        follows(letter + "5", ":");
        follows(letter + "5:", digitsBelow(seconds));
        follows(letter + "5:0", "*");
        follows(letter + "5:" + (seconds - 1), "*");
        follows(letter + "5:0*", "123456789");
    }

    private void sellText() {
        edges.sentence("input text", "s, the digit of a shop, :, the digit of a brand, *, the number of bottles");
        shopText("s", 8);
    }

    private void takeBackText() {
        edges.sentence("input text", "r, the digit of a shop, :, the digit of a brand, *, the number of bottles");
        shopText("r", 8);
    }

    private void breakText() {
        edges.sentence("input text", "b, the digit of a shop, :, the digit of a brand, *, the number of bottles");
        shopText("b", 8);
    }

    private void collectText() {
        edges.sentence("input text", "c, the digit of a shop, :, the digit of a kind, *, the number of crates");
        shopText("c", 3);
    }

    // ---- input text: numbers

    private void numbers() {
        cratesFrom1To50();
        bottlesFrom1To500();
        noLeadingZeros();
    }

    private void cratesFrom1To50() {
        edges.sentence("input text", "the number of crates, 1 to 50");
        for (String start : new String[] {"d7>5*", "c5:2*", "d0>0*1;d0>0*", "s0:0*499;c0:0*"}) {
            for (int number = 1; number <= 50; number++) {
                String further = number < 5 ? DIGITS + ";" : number == 5 ? "0;" : ";";
                follows(start + number, further);
            }
        }
    }

    private void bottlesFrom1To500() {
        edges.sentence("input text", "the number of bottles, 1 to 500");
        for (String start : new String[] {"s5:7*", "r5:7*", "b5:7*", "d0>0*1;b0:0*"}) {
            for (int number : new int[] {1, 4, 5, 9, 10, 49}) {
                follows(start + number, DIGITS + ";");
            }
            follows(start + 50, "0;");
            for (int number : new int[] {51, 59, 60, 99, 100, 499, 500}) {
                follows(start + number, ";");
            }
        }
    }

    private void noLeadingZeros() {
        edges.sentence("input text", "numbers are without leading zeros");
        for (String start : new String[] {"d0>0*", "s0:0*", "r0:0*", "b0:0*", "c0:0*"}) {
            BottleLoop x = written(start + "01");
            checks.same("firstError() of " + start + "01", x.firstError(), 5);
            checks.same("a zero behind another digit", written(start + "10").firstError(), 7);
        }
    }

    // ---- promise 17

    private void firstError() {
        errorInEmptyBuffer();
        errorInFullBuffer();
        errorIsTheFirst();
        errorIsOfAnyLength();
        errorBetweenOrders();
        errorChangesNothing();
    }

    private void errorIn(String text, int due) {
        checks.same("firstError() of " + text, written(text).firstError(), due);
    }

    private void errorInEmptyBuffer() {
        edges.sentence("promise 17", "the length of the buffer if there is none: an empty buffer");
        errorIn("", 0);
    }

    private void errorInFullBuffer() {
        edges.sentence("input text", "the buffer has at most 60 characters");
        errorIn(FULL_ROW, 60);
        errorIn(FULL_ROW.substring(0, 59), 59);
        errorIn(FULL_ROW.substring(0, 59) + "x", 59);
        errorIn(FULL_ROW.substring(0, 58) + "x", 58);
    }

    private void errorIsTheFirst() {
        edges.sentence("promise 17", "the index of the first character that is a syntax error");
        errorIn("x", 0);
        errorIn("xd0>0*1", 0);
        errorIn("dd", 1);
        errorIn("d8>6*0;x", 1);
        errorIn("d0>6*0;x", 3);
        errorIn("d0>0*0;x", 5);
        errorIn("d0>0*1;x;x", 7);
        errorIn(signs(60), 0);
    }

    private void errorIsOfAnyLength() {
        edges.sentence("input text", "if no row of orders, of any length, begins with these characters");
        errorIn(FULL_ROW.substring(0, 53) + "d0>0*1;", 60);
        errorIn("d0>0*1;".repeat(8) + "d0>0", 60);
        errorIn("s0:0*500;".repeat(6) + "s0:0*5", 60);
        errorIn("d0>0*1;".repeat(4) + "d0>0*10;".repeat(4), 60);
    }

    private void errorBetweenOrders() {
        edges.sentence("input text", "one or more orders separated by ;");
        errorIn(";", 0);
        errorIn(";d0>0*1", 0);
        errorIn("d0>0*1;;", 7);
        errorIn("d0>0*1,d0>0*1", 6);
        errorIn("d0>0*1d0>0*1", 6);
        errorIn("d0>0*1;d0>0*1", 13);
        errorIn("d0>0*1;", 7);
    }

    private void errorChangesNothing() {
        edges.sentence("promise 17", "finds: the buffer stays, nothing is saved");
        for (String text : new String[] {"", "d0>0*1", "d0>0*1;x"}) {
            BottleLoop x = written(Scenes.roomy(), text);
            x.firstError();
            checks.same("the loop after it", Edges.traceOf(x), Edges.traceOf(written(Scenes.roomy(), text)));
        }
    }

    // ---- promise 18

    private void run() {
        runOfIncompleteRows();
        runOfCompleteRows();
        runOfFullBuffer();
        runDoesAsTheMethods();
        runUpToTheFirstRefused();
        runClearsTheBuffer();
        runIsOneCall();
        runIsSavedAlways();
        runIsUndone();
    }

    private void runOfIncompleteRows() {
        edges.sentence("promise 18", "IllegalArgumentException if the buffer is not a complete row of orders");
        String row = "d0>0*10;s0:0*1";
        for (int length = 0; length < row.length() - 1; length++) {
            String text = row.substring(0, length);
            if (length != 6 && length != 7) {
                edges.refusesArgument("run() of " + text, () -> written(Scenes.roomy(), text), BottleLoop::run);
            }
        }
        for (String text : new String[] {row + ";", row + "x", "x" + row, row + "0;;" + row, "d0>0*0", "d0>0*51",
            "s0:0*501", "d8>0*1", "c0:3*1", "s0:0*1;x", "s0:0*01", FULL_ROW.substring(0, 59) + "x"}) {
            edges.refusesArgument("run() of " + text, () -> written(Scenes.roomy(), text), BottleLoop::run);
        }
    }

    private void runOfCompleteRows() {
        edges.sentence("promise 18", "returns how many orders are carried out");
        edges.answers("one", 1, () -> written(Scenes.busy(8, 6), "s5:7*4"), BottleLoop::run);
        edges.answers("each kind of order", 5, () -> written(Scenes.busy(8, 6), "d7>5*1;s5:7*1;r5:7*1;b5:7*1;c5:0*1"),
                BottleLoop::run);
        edges.answers("one that is refused", 0, () -> written(Scenes.busy(8, 6), "s5:7*5"), BottleLoop::run);
    }

    private void runOfFullBuffer() {
        edges.sentence("input text", "a row of orders of 60 characters is carried out");
        checks.same("its length", FULL_ROW.length(), 60);
        edges.answers("the full row", 8, EdgesTextsTest::readyForFullRow, BottleLoop::run);
        edges.refusesArgument("the full row without its last number", () -> {
            BottleLoop x = readyForFullRow();
            x.clearBuffer();
            return written(x, FULL_ROW.substring(0, 58));
        }, BottleLoop::run);
    }

    private static BottleLoop readyForFullRow() {
        BottleLoop x = new BottleLoop();
        x.set(5, 1000);
        x.addBrand(0, 400);
        x.addShop(100000);
        x.buyCrates(40);
        x.fill(0, 400);
        x.deliver(0, 0, 20);
        x.sell(0, 0, 200);
        x.takeBack(0, 0, 150);
        return written(x, FULL_ROW);
    }

    private void runDoesAsTheMethods() {
        edges.sentence("promise 18", "carries out the orders");
        for (int brand = 0; brand < 6; brand++) {
            for (int shop = 0; shop < 4; shop++) {
                int b = brand;
                int s = shop;
                does("d" + b + ">" + s + "*2", x -> x.deliver(b, s, 2));
                does("s" + s + ":" + b + "*3", x -> x.sell(s, b, 3));
                does("r" + s + ":" + b + "*1", x -> x.takeBack(s, b, 1));
                does("b" + s + ":" + b + "*10", x -> x.breaks(s, b, 10));
                does("c" + s + ":" + b % 3 + "*2", x -> x.collect(s, b % 3, 2));
            }
        }
    }

    private void does(String order, Edges.Act method) {
        BottleLoop x = written(Scenes.varied(), order);
        BottleLoop y = Scenes.varied();
        checks.answers("run() of " + order, 1, x::run);
        method.on(y);
        checks.same("the loop after " + order, x.digest(), y.digest());
    }

    private void runUpToTheFirstRefused() {
        edges.sentence("promise 18", "one after the other, up to the first one whose method would throw an exception");
        edges.answers("the first is refused", 0, () -> written(Scenes.takenBack(), "s0:0*5;s0:0*1"), BottleLoop::run);
        edges.answers("none is sold then", 4, () -> written(Scenes.takenBack(), "s0:0*5;s0:0*1"), x -> {
            x.run();
            return x.shop(0, 10);
        });
        edges.answers("the last is refused", 2, () -> written(Scenes.takenBack(), "s0:0*1;s0:0*3;s0:0*1"),
                BottleLoop::run);
        edges.answers("none is refused", 2, () -> written(Scenes.takenBack(), "s0:0*1;s0:0*3"), BottleLoop::run);
        edges.answers("by the order before it", 2, () -> written(Scenes.takenBack(), "s0:0*4;r1:0*4"),
                BottleLoop::run);
    }

    private void runClearsTheBuffer() {
        edges.sentence("promise 18", "and clears the buffer");
        for (String text : new String[] {"s0:0*1", "s0:0*5", "s0:0*1;s5:0*1"}) {
            BottleLoop x = written(Scenes.takenBack(), text);
            x.run();
            checks.same("clearBuffer() after " + text, x.clearBuffer(), 0);
        }
    }

    private void runIsOneCall() {
        edges.sentence("promise 18", "undoable, as one call");
        BottleLoop x = Scenes.roomy();
        long before = x.digest();
        Scenes.write(x, "s0:0*1;s0:0*1;s0:0*1;s0:0*2");
        int saved = x.count(10);
        checks.answers("run()", 3, x::run);
        checks.same("one state more", x.count(10), saved + 1);
        checks.answers("undo()", saved, x::undo);
        checks.same("the state from before it", x.digest(), before);
    }

    private void runIsSavedAlways() {
        edges.sentence("promise 18", "undoable, also if no order is carried out");
        BottleLoop x = written(Scenes.roomy(), "s0:0*5");
        int saved = x.count(10);
        checks.answers("run()", 0, x::run);
        checks.same("one state more", x.count(10), saved + 1);
    }

    private void runIsUndone() {
        edges.sentence("undo", "all, but the buffer");
        BottleLoop x = written(Scenes.roomy(), "s0:0*1");
        x.run();
        x.undo();
        checks.same("the buffer stays cleared", x.clearBuffer(), 0);
        Scenes.write(x, "s0:0*1");
        x.run();
        x.append('d');
        x.undo();
        checks.same("what was appended stays", x.clearBuffer(), 1);
    }

    // ---- promise 22, 9: the reason by which the latest run ended

    private void runReasons() {
        reasonOfNoRun();
        reasonOfAll();
        reasonOfBrandsAndShops();
        reasonOfDeliver();
        reasonOfSellAndBreak();
        reasonOfTakeBack();
        reasonOfCollect();
        reasonOfTheLatest();
        reasonOfARefusedRun();
        reasonIsUndone();
    }

    private void ends(String text, int done, int reason, Edges.Scene scene) {
        checks.same("run() of " + text, Scenes.runOf(scene.make(), text), done + " reason " + reason);
    }

    private void reasonOfNoRun() {
        edges.sentence("promise 22", "9: .. 0 if there was none");
        edges.answers("new", 0, BottleLoop::new, x -> x.count(9));
        edges.answers("after refused calls", 0, Scenes::empty, x -> {
            Checks.outcome(() -> x.deliver(0, 0, 50));
            Checks.outcome(() -> x.deliver(7, 0, 50));
            return x.count(9);
        });
    }

    private void reasonOfAll() {
        edges.sentence("promise 22", "9: .. 0 if it carried out all orders");
        ends("s0:0*4", 1, 0, Scenes::takenBack);
        ends("s0:0*1;s0:0*3", 2, 0, Scenes::takenBack);
    }

    private void reasonOfBrandsAndShops() {
        edges.sentence("promise 22", "9: .. 4 if a brand or a shop did not exist");
        for (String text : new String[] {"d3>0*1", "d7>0*1", "d0>2*1", "d0>5*1", "d3>2*1", "s2:0*1", "s0:3*1", "s2:3*1",
            "r2:0*1", "r0:3*1", "r2:3*1", "b2:0*1", "b0:3*1", "b2:3*1", "c2:0*1", "c5:2*1"}) {
            ends(text, 0, 4, Scenes::takenBack);
            ends("s0:0*1;" + text, 1, 4, Scenes::takenBack);
            ends("s0:0*1;" + text + ";s0:0*1", 1, 4, Scenes::takenBack);
        }
        for (String text : new String[] {"d0>0*1", "s0:0*1", "r0:0*1", "b0:0*1", "c0:0*1"}) {
            ends(text, 0, 4, BottleLoop::new);
        }
        ends("c0:2*1", 0, 1, () -> Scenes.stocked(0, 0, 0));
    }

    private void reasonOfDeliver() {
        edges.sentence("reasons", "to deliver: 1 bottles, 2 crates in the store, 3 money, the first one that applies");
        ends("d0>0*2", 1, 0, () -> Scenes.stocked(24, 2, 504));
        ends("d0>0*2", 0, 1, () -> Scenes.stocked(23, 2, 504));
        ends("d0>0*2", 0, 2, () -> Scenes.stocked(24, 1, 504));
        ends("d0>0*2", 0, 3, () -> Scenes.stocked(24, 2, 503));
        ends("d0>0*2", 0, 1, () -> Scenes.stocked(23, 1, 503));
        ends("d0>0*2", 0, 2, () -> Scenes.stocked(24, 1, 503));
        ends("d0>0*2", 0, 1, () -> Scenes.stocked(23, 2, 503));
    }

    private void reasonOfSellAndBreak() {
        edges.sentence("reasons", "to sell or break: 1 there are not enough bottles where they should be");
        ends("s0:0*4", 1, 0, Scenes::takenBack);
        ends("s0:0*5", 0, 1, Scenes::takenBack);
        ends("b0:0*20", 1, 0, Scenes::takenBack);
        ends("b0:0*21", 0, 1, Scenes::takenBack);
        ends("s0:0*500", 1, 0, Scenes::greatShop);
        ends("b0:0*500", 1, 0, Scenes::greatReturn);
    }

    private void reasonOfTakeBack() {
        edges.sentence("reasons", "to take back: 1 bottles, 3 money, the first one that applies");
        ends("r2:0*24", 1, 0, () -> Scenes.sold(192));
        ends("r2:0*24", 0, 3, () -> Scenes.sold(191));
        ends("r2:0*25", 0, 1, () -> Scenes.sold(200));
        ends("r2:0*25", 0, 1, () -> Scenes.sold(0));
    }

    private void reasonOfCollect() {
        edges.sentence("reasons", "to collect: 1 bottles, 2 crates in the shop, the first one that applies");
        ends("c0:0*2", 1, 0, () -> Scenes.returned(24));
        ends("c0:0*2", 0, 1, () -> Scenes.returned(23));
        ends("r1:0*12;c1:0*1", 1, 2, EdgesTextsTest::cratesElsewhere);
        ends("r1:0*12;c1:0*2", 1, 1, EdgesTextsTest::cratesElsewhere);
    }

    private static BottleLoop cratesElsewhere() {
        BottleLoop x = Scenes.returned(24);
        x.undo();
        return x;
    }

    private void reasonOfTheLatest() {
        edges.sentence("promise 22", "9: the reason by which the latest run() ended");
        BottleLoop x = Scenes.takenBack();
        checks.same("4", Scenes.runOf(x, "s5:0*1"), "0 reason 4");
        checks.same("then 1", Scenes.runOf(x, "s0:0*5"), "0 reason 1");
        checks.same("then 0", Scenes.runOf(x, "s0:0*1"), "1 reason 0");
        checks.same("then 1 again", Scenes.runOf(x, "s0:0*4"), "0 reason 1");
        x.sell(0, 0, 1);
        checks.same("after another call", x.count(9), 1);
    }

    private void reasonOfARefusedRun() {
        edges.sentence("exceptions", "a call that throws an exception changes nothing: not the latest reason");
        BottleLoop x = Scenes.takenBack();
        Scenes.runOf(x, "s5:0*1");
        checks.same("run() of d", Scenes.runOf(x, "d"), "throws.IllegalArgumentException reason 4");
        checks.same("run() of nothing", Scenes.runOf(x, ""), "throws.IllegalArgumentException reason 4");
    }

    private void reasonIsUndone() {
        edges.sentence("undo", "all, also what is counted so far: the latest reason");
        BottleLoop x = Scenes.takenBack();
        Scenes.runOf(x, "s5:0*1");
        Scenes.runOf(x, "s0:0*1");
        x.undo();
        checks.same("the run before", x.count(9), 4);
        x.undo();
        checks.same("no run", x.count(9), 0);
    }
}
