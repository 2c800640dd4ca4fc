import java.util.Arrays;

/** Makes calls at the document's boundaries, each on a new loop, and looks whether a refused one changed anything. */
final class Edges {
    interface Scene {
        BottleLoop make();
    }

    interface Act {
        Object on(BottleLoop x);
    }

    interface ActWith {
        Object on(BottleLoop x, int value);
    }

    private static final String INDEX = "throws.IndexOutOfBoundsException";
    private static final String ARGUMENT = "throws.IllegalArgumentException";
    private static final String STATE = "throws.IllegalStateException";

    private final Checks checks;

    Edges(Checks checks) {
        this.checks = checks;
    }

    /** A sentence of the document, in its own words or nearly so: what the checks that follow are about. */
    void sentence(String where, String words) {
        checks.begin(where + " (" + words + ")");
    }

    void answers(String what, Object due, Scene scene, Act act) {
        BottleLoop x = scene.make();
        checks.answers(what, due, () -> act.on(x));
    }

    void allows(String what, Scene scene, Act act) {
        BottleLoop x = scene.make();
        String outcome = Checks.outcome(() -> act.on(x));
        checks.same(what + " is refused by " + outcome, outcome.startsWith("throws."), false);
    }

    // ---- refused calls

    void refusesIndex(String what, Scene scene, Act act) {
        refuses(INDEX, what, scene, act);
    }

    void refusesArgument(String what, Scene scene, Act act) {
        refuses(ARGUMENT, what, scene, act);
    }

    void refusesState(String what, Scene scene, Act act) {
        refuses(STATE, what, scene, act);
    }

    private void refuses(String due, String what, Scene scene, Act act) {
        BottleLoop x = scene.make();
        checks.answers(what, due, () -> act.on(x));
        checks.same("the loop after the refused " + what, traceOf(x), traceOf(scene.make()));
        BottleLoop y = scene.make();
        Checks.outcome(() -> act.on(y));
        checks.same("the swaps after the refused " + what, swapsOf(y), swapsOf(scene.make()));
    }

    /** The state, the buffer and each saved state; the loop is used up by it. */
    static String traceOf(BottleLoop x) {
        StringBuilder trace = new StringBuilder().append(x.digest());
        while (x.count(10) > 0) {
            x.undo();
            trace.append(' ').append(x.digest());
        }
        return trace.toString();
    }

    /** What two breweries have swapped is told by swap() alone; the loop is used up by it. */
    static String swapsOf(BottleLoop x) {
        StringBuilder swaps = new StringBuilder();
        for (int from = 0; from < x.count(0); from++) {
            for (int to = 0; to < x.count(0); to++) {
                int a = from;
                int b = to;
                swaps.append(Checks.outcome(() -> x.swap(a, b, 1))).append(' ');
            }
        }
        return swaps.toString();
    }

    // ---- both ends of what is allowed

    void argumentFrom(int least, int most, Scene scene, ActWith act) {
        bounds(ARGUMENT, least, most, scene, act);
    }

    void indexFrom(int least, int most, Scene scene, ActWith act) {
        bounds(INDEX, least, most, scene, act);
    }

    private void bounds(String due, int least, int most, Scene scene, ActWith act) {
        for (int value : new int[] {least, most}) {
            allows(String.valueOf(value), scene, x -> act.on(x, value));
        }
        for (int value : new int[] {least - 1, most + 1, Integer.MIN_VALUE, Integer.MAX_VALUE}) {
            refuses(due, String.valueOf(value), scene, x -> act.on(x, value));
        }
    }

    /** Brands that there are, are allowed, and others are not: at two, and at eight, where the room for them ends. */
    void brandsThatThereAre(ActWith act) {
        for (int brands : new int[] {2, 8}) {
            indexFrom(0, brands - 1, () -> Scenes.busy(brands, 2), act);
        }
        refusesIndex("0 without brands", () -> Scenes.busy(0, 2), x -> act.on(x, 0));
    }

    void shopsThatThereAre(ActWith act) {
        for (int shops : new int[] {1, 6}) {
            indexFrom(0, shops - 1, () -> Scenes.busy(2, shops), act);
        }
        refusesIndex("0 without shops", () -> Scenes.busy(2, 0), x -> act.on(x, 0));
    }

    // ---- which exception comes where several would do

    interface Mixed {
        Object on(BottleLoop x, int[] values);
    }

    /** A parameter: a value that is allowed, and values by which an exception of its kind is due. */
    static final class Parameter {
        private final int good;
        private final String due;
        private final int[] bad;

        private Parameter(String due, int good, int[] bad) {
            this.due = due;
            this.good = good;
            this.bad = bad;
        }

        private int choices() {
            return 1 + bad.length;
        }

        private int value(int choice) {
            return choice == 0 ? good : bad[choice - 1];
        }
    }

    static Parameter index(int good, int... bad) {
        return new Parameter(INDEX, good, bad);
    }

    static Parameter argument(int good, int... bad) {
        return new Parameter(ARGUMENT, good, bad);
    }

    /**
     * All mixes of good and bad values, in a scene in which even the good ones are refused for the state: the exception
     * that the throws clause names first is due, which is the order index, argument, state throughout.
     */
    void firstNamed(String call, Scene scene, Mixed act, Parameter... parameters) {
        int mixes = 1;
        for (Parameter parameter : parameters) {
            mixes *= parameter.choices();
        }
        for (int mix = 0; mix < mixes; mix++) {
            int[] values = new int[parameters.length];
            String due = choose(mix, parameters, values);
            refuses(due, call + Arrays.toString(values), scene, x -> act.on(x, values));
        }
    }

    private static String choose(int mix, Parameter[] parameters, int[] values) {
        String due = STATE;
        int rest = mix;
        for (int i = 0; i < parameters.length; i++) {
            int choice = rest % parameters[i].choices();
            rest /= parameters[i].choices();
            values[i] = parameters[i].value(choice);
            if (choice > 0 && !due.equals(INDEX)) {
                due = parameters[i].due;
            }
        }
        return due;
    }
}
