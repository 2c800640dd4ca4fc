/** Promises 15 to 19: the buffer, its errors, rows of orders, and undo. */
public final class TextsTest {
    private final Checks checks = new Checks();

    private TextsTest() {
    }

    public static void main(String[] args) {
        TextsTest test = new TextsTest();
        test.append();
        test.clearBuffer();
        test.firstError();
        test.firstErrorOfNumbers();
        test.run();
        test.runRefused();
        test.runReasons();
        test.undo();
        test.undoOfEach();
        test.checks.end();
    }

    private void append() {
        checks.begin("promise 15");
        BottleLoop x = new BottleLoop();
        checks.refusesArgument("32", () -> x.append(32));
        checks.refusesArgument("127", () -> x.append(127));
        checks.refusesArgument("-1", () -> x.append(-1));
        for (int length = 1; length <= 60; length++) {
            checks.same("length", x.append(length % 2 == 0 ? 33 : 126), length);
        }
        checks.refusesState("the 61st", () -> x.append('d'));
        checks.refusesArgument("the 61st, 127", () -> x.append(127));
        checks.same("saved states", x.count(10), 0);
        checks.same("length", x.clearBuffer(), 60);
        checks.same("length after clearing", x.append('d'), 1);
    }

    private void clearBuffer() {
        checks.begin("promise 16");
        BottleLoop x = new BottleLoop();
        checks.same("empty", x.clearBuffer(), 0);
        Scenes.write(x, "abc");
        checks.same("3", x.clearBuffer(), 3);
        checks.same("again", x.clearBuffer(), 0);
        checks.same("saved states", x.count(10), 0);
    }

    /** The sign ^ stands behind the character that is the first error; without it there is none. */
    private void errorIn(String marked) {
        int at = marked.indexOf('^');
        String text = at < 0 ? marked : marked.substring(0, at) + marked.substring(at + 1);
        BottleLoop x = new BottleLoop();
        Scenes.write(x, text);
        checks.same("firstError() of " + marked, x.firstError(), at < 0 ? text.length() : at - 1);
        checks.same("length after firstError()", x.clearBuffer(), text.length());
    }

    private void firstError() {
        checks.begin("promise 17");
        String[] marked = {
            "", "d", "d7", "d7>", "d7>5", "d7>5*", "d7>5*1", "s5:7*1", "r0:0*500", "b5:0*20", "c5:2*50",
            "d0>0*1;", "d0>0*1;s", "d0>0*1;s0:0*1;r0:0*1;b0:0*1;c0:0*1;d7>5*50",
            "x^", "D^", "0^", ";^", "*^", ":^", "~^", "e^",
            "d8^", "d9^", "d>^", "d/^", "d:^", "d0:^", "d0*^", "d00^", "d0>6^", "d0>>^", "d0>0>^", "d0>00^",
            "s6^", "s0>^", "s0:8^", "s0:9^", "s0:0:^", "r6^", "r0:8^", "b6^", "b0:8^",
            "c6^", "c7^", "c0>^", "c0:3^", "c0:7^", "d0>0*1;;^", "d0>0*1;x^", "d0>0*;^", "d0>0*1;d0>0*;^1",
            "d0>0*1*^", "d0>0*1d^", "d0>0*-^", "d0>0*+^"};
        for (String text : marked) {
            errorIn(text);
        }
    }

    private void firstErrorOfNumbers() {
        for (String start : new String[] {"d0>0*", "c0:0*"}) {
            errorIn(start + "0^");
            errorIn(start + "49");
            errorIn(start + "50");
            errorIn(start + "51^");
            errorIn(start + "60^");
            errorIn(start + "99^");
            errorIn(start + "100^");
            errorIn(start + "500^");
            errorIn(start + "5:^");
            errorIn(start + "4:^");
            errorIn(start + "/^");
        }
        for (String start : new String[] {"s0:0*", "r0:0*", "b0:0*"}) {
            errorIn(start + "0^");
            errorIn(start + "0^1");
            errorIn(start + "4:^");
            errorIn(start + "99");
            errorIn(start + "499");
            errorIn(start + "500");
            errorIn(start + "501^");
            errorIn(start + "509^");
            errorIn(start + "510^");
            errorIn(start + "600^");
            errorIn(start + "1000^");
            errorIn(start + "5000^");
            errorIn(start + "999^9999999");
        }
    }

    private void run() {
        checks.begin("promise 18");
        BottleLoop x = Scenes.filled();
        checks.same("five orders", Scenes.runOf(x, "d0>0*2;s0:0*20;r1:0*12;r0:0*8;b0:0*1"), "5 reason 0");
        checks.same("length then", x.clearBuffer(), 0);
        checks.same("the shop's money", x.shop(0, 0), 5000 - 504 + 160 - 64 + 8);
        checks.same("the other shop's", x.shop(1, 0), 700 - 96);
        checks.same("its empty ones", x.shop(1, 20), 12);
        checks.same("broken", x.brand(0, 7), 1);
        checks.same("out", x.brand(0, 5), 0);
        checks.same("pool", x.count(6), 4);
        BottleLoop y = Scenes.takenBack();
        BottleLoop z = Scenes.takenBack();
        y.collect(0, 0, 2);
        checks.same("collect", Scenes.runOf(z, "c0:0*2"), "1 reason 0");
        checks.same("as collect()", Scenes.picture(z), Scenes.picture(y));
        BottleLoop v = Scenes.filled();
        BottleLoop w = Scenes.filled();
        v.deliver(2, 1, 2);
        checks.same("deliver", Scenes.runOf(w, "d2>1*2"), "1 reason 0");
        checks.same("as deliver()", Scenes.picture(w), Scenes.picture(v));
    }

    private void runRefused() {
        BottleLoop x = Scenes.filled();
        Scenes.runOf(x, "d7>0*1");
        for (String text : new String[] {"", "d", "d0>0*", "d0>0*1;", "d0>0*1;x", "x", "d0>0*1;s0:0", "d0>0*0"}) {
            x.clearBuffer();
            Scenes.write(x, text);
            long before = x.digest();
            checks.refusesArgument("run() of " + text, x::run);
            checks.same("state then", x.digest(), before);
        }
        checks.same("reason then", x.count(9), 4);
    }

    private void runReasons() {
        checks.same("no brand", Scenes.runOf(Scenes.filled(), "d0>0*1;d3>0*1;d0>0*1"), "1 reason 4");
        checks.same("no shop", Scenes.runOf(Scenes.filled(), "d0>2*1"), "0 reason 4");
        checks.same("no shop to collect", Scenes.runOf(Scenes.filled(), "c2:0*1"), "0 reason 4");
        checks.same("a kind is no brand", Scenes.runOf(Scenes.filled(), "c1:2*1"), "0 reason 1");
        for (String letter : new String[] {"s", "r", "b"}) {
            checks.same(letter + ": no shop", Scenes.runOf(Scenes.filled(), letter + "2:0*1"), "0 reason 4");
            checks.same(letter + ": no brand", Scenes.runOf(Scenes.filled(), letter + "0:3*1"), "0 reason 4");
            checks.same(letter + ": too few", Scenes.runOf(Scenes.filled(), letter + "0:0*1"), "0 reason 1");
        }
        checks.same("deliver: bottles", Scenes.runOf(Scenes.filled(), "d0>0*4"), "0 reason 1");
        checks.same("deliver: money", Scenes.runOf(Scenes.filled(), "d0>1*2;d0>1*1"), "1 reason 3");
        BottleLoop x = new BottleLoop();
        x.addBrand(0, 100);
        x.addShop(1);
        x.fill(0, 100);
        checks.same("deliver: crates", Scenes.runOf(x, "d0>0*1"), "0 reason 2");
        x.buyCrates(1);
        checks.same("deliver: money for one", Scenes.runOf(x, "d0>0*1"), "0 reason 3");
        BottleLoop y = Scenes.filled();
        checks.same("collect: crates", Scenes.runOf(y, "d0>0*1;s0:0*12;r1:0*12;c1:0*1"), "3 reason 2");
        BottleLoop z = Scenes.filled();
        z.addShop(7);
        checks.same("take back: money", Scenes.runOf(z, "d0>0*1;s0:0*1;r2:0*1;s0:0*1"), "2 reason 3");
        checks.same("out then", z.brand(0, 5), 1);
        checks.same("all is well then", Scenes.runOf(z, "s0:0*1"), "1 reason 0");
    }

    private void undo() {
        checks.begin("promise 19");
        BottleLoop x = new BottleLoop();
        checks.refusesState("none", x::undo);
        for (int i = 0; i < 9; i++) {
            x.addShop(i);
            checks.same("saved states", x.count(10), Math.min(i + 1, 6));
            x.undo();
            x.buyCrates(1);
        }
        checks.same("store", x.count(2), 9);
        x.append('d');
        for (int left = 5; left >= 0; left--) {
            checks.same("undo()", x.undo(), left);
            checks.same("store", x.count(2), 3 + left);
        }
        checks.refusesState("no more", x::undo);
        checks.same("store", x.count(2), 3);
        checks.same("the buffer stays", x.clearBuffer(), 1);
    }

    /** A run is one call; the reason is counted so far, too. */
    private void undoOfEach() {
        BottleLoop x = Scenes.filled();
        String before = Scenes.picture(x);
        Scenes.runOf(x, "d0>0*1;s0:0*12;d7>0*1");
        checks.same("reason", x.count(9), 4);
        x.append('s');
        checks.same("undo()", x.undo(), 5);
        checks.same("state then", Scenes.picture(x), before);
        checks.same("the buffer stays", x.clearBuffer(), 1);
        int saved = x.count(10);
        Scenes.runOf(x, "d7>0*1");
        checks.same("saved with no order carried out", x.count(10), saved + 1);
        x.undo();
        x.set(4, x.setting(4));
        checks.same("saved with nothing changed", x.count(10), saved + 1);
        checks.refusesState("deliver()", () -> x.deliver(0, 0, 50));
        checks.same("saved with an exception", x.count(10), saved + 1);
    }
}
