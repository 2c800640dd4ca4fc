import java.util.ArrayList;
import java.util.List;

/** The boundary cases of promise 19, of undo and of the exceptions, a test for each sentence that names one. */
public final class EdgesUndoTest {
    private static final int MOST_CALLS = 512;

    private final Checks checks = new Checks();
    private final Edges edges = new Edges(checks);

    private EdgesUndoTest() {
    }

    public static void main(String[] args) {
        EdgesUndoTest test = new EdgesUndoTest();
        test.undoOfNone();
        test.undoAnswer();
        test.mostStates();
        test.oldestDroppedFirst();
        test.afterTheOldestWasDropped();
        test.undoIsNotSaved();
        test.undoableCallsAreSaved();
        test.undoableCallsAreRestored();
        test.unchangedIsSaved();
        test.otherCallsAreNotSaved();
        test.refusedCallsAreNotSaved();
        test.whatIsCountedIsRestored();
        test.swapsAreRestored();
        test.settingsAreRestored();
        test.bufferIsNotRestored();
        test.savedStatesAreNotRestored();
        test.lastCall();
        test.checks.end();
    }

    // ---- promise 19

    private void undoOfNone() {
        edges.sentence("promise 19", "IllegalStateException if there is none");
        edges.refusesState("undo() of a new loop", BottleLoop::new, BottleLoop::undo);
        edges.refusesState("undo() behind the last one", () -> {
            BottleLoop x = Scenes.busy(1, 1);
            for (int i = 0; i < 6; i++) {
                x.undo();
            }
            return x;
        }, BottleLoop::undo);
        edges.allows("undo() of one", () -> bought(1), BottleLoop::undo);
    }

    /** Crates were bought so many times, one each. */
    private static BottleLoop bought(int times) {
        BottleLoop x = new BottleLoop();
        for (int i = 0; i < times; i++) {
            x.buyCrates(1);
        }
        return x;
    }

    private void undoAnswer() {
        edges.sentence("promise 19", "returns how many saved states are left");
        for (int times = 1; times <= 8; times++) {
            int t = times;
            edges.answers("of " + t, Math.min(t, 6) - 1, () -> bought(t), BottleLoop::undo);
        }
    }

    private void mostStates() {
        edges.sentence("undo", "at most 6 states are saved");
        for (int times = 0; times <= 15; times++) {
            int t = times;
            edges.answers("after " + t, Math.min(t, 6), () -> bought(t), x -> x.count(10));
        }
    }

    private void oldestDroppedFirst() {
        edges.sentence("undo", "the oldest one is dropped first");
        for (int times = 1; times <= 15; times++) {
            BottleLoop x = bought(times);
            int store = times;
            while (x.count(10) > 0) {
                x.undo();
                store--;
                checks.same("store", x.count(2), store);
            }
            checks.same("the oldest of " + times, x.count(2), Math.max(0, times - 6));
        }
    }

    private void afterTheOldestWasDropped() {
        edges.sentence("promise 19", "restores the latest saved state, and drops it");
        BottleLoop x = bought(9);
        x.undo();
        x.undo();
        x.buyCrates(100);
        checks.same("saved", x.count(10), 5);
        x.buyCrates(100);
        x.buyCrates(100);
        checks.same("saved", x.count(10), 6);
        int[] due = {207, 107, 7, 6, 5, 4};
        for (int store : due) {
            x.undo();
            checks.same("store", x.count(2), store);
        }
        checks.refusesState("undo()", x::undo);
    }

    private void undoIsNotSaved() {
        edges.sentence("undo", "undo itself is not marked undoable");
        BottleLoop x = bought(2);
        x.undo();
        x.undo();
        checks.same("count(10)", x.count(10), 0);
        checks.same("store", x.count(2), 0);
    }

    // ---- which calls are saved

    /** All calls that are marked undoable, such that a busy loop of three brands and two shops answers them. */
    private static List<Edges.Act> undoable() {
        List<Edges.Act> acts = new ArrayList<>();
        acts.add(x -> x.addBrand(2, 7));
        acts.add(x -> x.addShop(77));
        acts.add(x -> x.buyCrates(7));
        acts.add(x -> x.set(4, 7));
        acts.add(x -> x.set(5, 7));
        acts.add(x -> x.fill(1, 17));
        acts.add(x -> x.deliver(2, 1, 2));
        acts.add(x -> x.sell(1, 0, 3));
        acts.add(x -> x.takeBack(0, 2, 5));
        acts.add(x -> x.breaks(1, 1, 4));
        acts.add(x -> x.lose(2, 6));
        acts.add(x -> x.collect(1, 0, 2));
        acts.add(x -> x.sort(0, 13));
        acts.add(x -> x.swap(1, 2, 9));
        acts.add(EdgesUndoTest::runOfAll);
        return acts;
    }

    private static Object runOfAll(BottleLoop x) {
        x.clearBuffer();
        Scenes.write(x, "d0>0*1;s0:0*1;r0:0*1;b0:0*1;c0:0*1;d7>0*1");
        return x.run();
    }

    /** A busy loop with bottles in the yard, where two more states can be saved. */
    private static BottleLoop roomy() {
        BottleLoop x = Scenes.busy(3, 2);
        x.collect(0, 0, 2);
        x.undo();
        x.undo();
        x.undo();
        x.collect(0, 0, 2);
        return x;
    }

    private void undoableCallsAreSaved() {
        edges.sentence("undo", "each method that is marked undoable saves the state from before it");
        for (Edges.Act act : undoable()) {
            edges.answers("saved before", 4, EdgesUndoTest::roomy, x -> x.count(10));
            edges.answers("saved then", 5, EdgesUndoTest::roomy, x -> {
                act.on(x);
                return x.count(10);
            });
        }
    }

    private void undoableCallsAreRestored() {
        edges.sentence("promise 19", "restores the latest saved state");
        for (Edges.Act act : undoable()) {
            BottleLoop x = roomy();
            long before = x.digest();
            act.on(x);
            checks.same("changed", x.digest() != before, true);
            x.undo();
            checks.same("restored", x.digest(), before);
            checks.same("and those before it", Edges.traceOf(x), Edges.traceOf(roomy()));
            restoredFromFull(act);
        }
    }

    /** Where six states are saved, the oldest one is missing then, and nothing else. */
    private void restoredFromFull(Edges.Act act) {
        BottleLoop x = Scenes.busy(3, 2);
        x.collect(0, 0, 2);
        String before = Scenes.picture(x);
        act.on(x);
        checks.same("changed, of six", Scenes.picture(x).equals(before), false);
        checks.same("left of six", x.undo(), 5);
        checks.same("restored, of six", Scenes.picture(x), before);
    }

    private void unchangedIsSaved() {
        edges.sentence("undo", "saves the state from before it (also if it changes nothing)");
        for (int setting = 0; setting <= 5; setting++) {
            int s = setting;
            edges.answers("set() to the same value", 1, BottleLoop::new, x -> {
                x.set(s, x.setting(s));
                return x.count(10);
            });
        }
        edges.answers("run() of a refused order", 1, BottleLoop::new, x -> {
            Scenes.write(x, "s0:0*1");
            x.run();
            return x.count(10);
        });
    }

    private void otherCallsAreNotSaved() {
        edges.sentence("undo", "other methods save nothing");
        BottleLoop x = Scenes.roomy();
        x.append('d');
        x.firstError();
        x.clearBuffer();
        x.brand(0, 1);
        x.shop(0, 1);
        x.count(1);
        x.setting(1);
        x.whyNotDeliver(0, 0, 1);
        x.whyNotCollect(0, 0, 1);
        x.mostCrates(0, 0);
        x.collected(0, 0, 1);
        x.filled(0, 1);
        x.bestShop(0);
        x.goneShare();
        x.digest();
        checks.same("the loop then", Edges.traceOf(x), Edges.traceOf(Scenes.roomy()));
    }

    private void refusedCallsAreNotSaved() {
        edges.sentence("undo", "each method that does not throw an exception saves the state");
        BottleLoop x = bought(3);
        Checks.outcome(() -> x.addBrand(3, 0));
        Checks.outcome(() -> x.addShop(-1));
        Checks.outcome(() -> x.buyCrates(0));
        Checks.outcome(() -> x.set(6, 0));
        Checks.outcome(() -> x.fill(0, 1));
        Checks.outcome(() -> x.sort(0, 1));
        Checks.outcome(x::run);
        checks.same("the loop then", Edges.traceOf(x), Edges.traceOf(bought(3)));
    }

    // ---- what is restored

    private void whatIsCountedIsRestored() {
        edges.sentence("undo", "all, also what is counted so far");
        restoresBrand("broken", 7, x -> x.breaks(0, 0, 3));
        restoresBrand("lost", 8, x -> x.lose(0, 3));
        restoresBrand("worn out", 9, x -> x.fill(0, 20));
        restoresBrand("filled", 10, x -> x.fill(0, 1));
        restoresBrand("swapped", 11, x -> x.swap(0, 1, 1));
        restoresShop("paid to the association", 4, x -> x.deliver(0, 0, 1));
        restoresShop("paid into the pool", 5, x -> x.breaks(0, 0, 1));
        restoresShop("sold", 6, x -> x.sell(0, 0, 1));
    }

    private void restoresBrand(String what, int number, Edges.Act act) {
        BottleLoop x = Scenes.busy(3, 2);
        int before = x.brand(0, number);
        act.on(x);
        checks.same(what + " changes", x.brand(0, number) != before, true);
        x.undo();
        checks.same(what, x.brand(0, number), before);
    }

    private void restoresShop(String what, int number, Edges.Act act) {
        BottleLoop x = Scenes.busy(3, 2);
        int before = x.shop(0, number);
        act.on(x);
        checks.same(what + " changes", x.shop(0, number) != before, true);
        x.undo();
        checks.same(what, x.shop(0, number), before);
    }

    private void swapsAreRestored() {
        edges.sentence("undo", "all, also what two breweries have swapped");
        BottleLoop x = Scenes.busy(3, 1);
        x.swap(0, 1, 2);
        x.swap(0, 1, 5);
        x.undo();
        checks.answers("swap() then", 3, () -> x.swap(0, 1, 1));
        x.undo();
        x.undo();
        checks.answers("swap() back then", 1, () -> x.swap(1, 0, 1));
    }

    private void settingsAreRestored() {
        edges.sentence("undo", "all, also the settings");
        for (int setting = 0; setting <= 5; setting++) {
            BottleLoop x = new BottleLoop();
            int before = x.setting(setting);
            x.set(setting, 50);
            x.undo();
            checks.same("setting(" + setting + ")", x.setting(setting), before);
        }
    }

    private void bufferIsNotRestored() {
        edges.sentence("undo", "all, but the buffer");
        BottleLoop x = new BottleLoop();
        Scenes.write(x, "ab");
        x.buyCrates(1);
        x.append('c');
        x.undo();
        checks.same("what was appended stays", x.clearBuffer(), 3);
        x.buyCrates(1);
        x.undo();
        checks.same("what was cleared stays so", x.clearBuffer(), 0);
    }

    private void savedStatesAreNotRestored() {
        edges.sentence("undo", "all, but the saved states");
        BottleLoop x = bought(2);
        x.undo();
        checks.same("count(10)", x.count(10), 1);
        x.undo();
        checks.same("count(10) at last", x.count(10), 0);
    }

    // ---- what it is

    private void lastCall() {
        edges.sentence("what it is", "an object is used for at most 512 calls");
        BottleLoop x = new BottleLoop();
        x.addBrand(0, 5000);
        x.addBrand(0, 5000);
        x.set(5, 2);
        for (int call = 3; call < MOST_CALLS - 1; call += 2) {
            x.swap(0, 1, 5000);
            x.swap(1, 0, 5000);
        }
        checks.answers("the 512th call", 5000, () -> x.swap(0, 1, 5000));
    }
}
