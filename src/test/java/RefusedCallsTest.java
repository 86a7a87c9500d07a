/**
 * All calls that are refused, in the empty state, in the midst of work and in the full state: each
 * throws what is due, the exception that its throws clause names first, and changes nothing.
 */
final class RefusedCallsTest {
    interface Call {
        long on(Cogwright x);
    }

    private static final Check CHECK = new Check("RefusedCallsTest");
    private static final Class<IllegalArgumentException> ARGUMENT = IllegalArgumentException.class;
    private static final Class<IllegalStateException> STATE = IllegalStateException.class;
    private static final Class<IndexOutOfBoundsException> BOUNDS = IndexOutOfBoundsException.class;

    private final Scene scene;
    private final String before;

    private RefusedCallsTest(Scene scene) {
        this.scene = scene;
        before = scene.trace();
    }

    public static void main(String[] args) {
        busyAsTold();
        fullAsTold();
        for (Scene scene : Scene.values()) {
            RefusedCallsTest test = new RefusedCallsTest(scene);
            test.addCutter();
            test.cutterFor();
            test.stage();
            test.make();
            test.ofTrains();
            test.turns();
            test.order();
            test.pass();
            test.machines();
            test.ofOrders();
            test.wear();
            test.testOfNoOrder();
            test.testArguments();
            test.leastNew();
        }
        new RefusedCallsTest(Scene.BUSY).testStates();
        new RefusedCallsTest(Scene.DRAFTED).fifthStage();
        new RefusedCallsTest(Scene.FULL).fifthStage();
        new RefusedCallsTest(Scene.FULL).fullStates();
        makeWithoutCutter();
        CHECK.end();
    }

    private static void busyAsTold() {
        CHECK.sentence("the states in the midst of work are as they are told");
        Cogwright x = Scene.BUSY.build();
        CHECK.same("time", 136, x.time());
        CHECK.same("all the wear that it bears", 200, x.wear(0, 0));
        CHECK.same("one broken order", 1, x.claims(1));
        CHECK.same("in work", 3, x.gearsLeft(2));
        CHECK.same("in work", 2, x.gearsLeft(3));
        CHECK.same("gears that wait", 3, x.waiting());
        CHECK.same("machine 0", 7, x.ticksLeft(0));
        CHECK.same("machine 1 is without a job", 0, x.ticksLeft(1));
        CHECK.same("machine 2", 2, x.ticksLeft(2));
        CHECK.same("the draft can be made", 2, x.make(Scene.BUSY.distance));
        CHECK.same("its ratio", 304, x.numerator(2));
        Cogwright y = Scene.DRAFTED.build();
        CHECK.same("the full draft can be made", 2, y.make(Scene.DRAFTED.distance));
        CHECK.same("its ratio", 285, y.numerator(2));
        CHECK.same("its ratio", 77, y.denominator(2));
    }

    private static void fullAsTold() {
        CHECK.sentence("the full state is as it is told");
        Cogwright x = Scene.FULL.build();
        CHECK.same("the last cutter", 9, x.cutterFor(2, 49));
        CHECK.same("there is none", -1, x.cutterFor(4, 60));
        CHECK.same("the last train", 1, x.claims(1) + x.claims(7));
        CHECK.same("whole", 80, x.wear(0, 0));
        CHECK.same("broken", 5000, x.wear(1, 0));
        CHECK.same("the last order", 2, x.gearsLeft(11));
        CHECK.same("the draft", 4, x.scrap());
    }

    private void refused(Class<? extends RuntimeException> due, String call, Call made) {
        String what = scene + ": " + call;
        Cogwright once = scene.build();
        Cogwright twice = scene.build();
        CHECK.fails(what, due, () -> made.on(once));
        CHECK.fails(what + ", of two", due, () -> made.on(twice));
        CHECK.fails(what + ", once more", due, () -> made.on(twice));
        CHECK.holds(what + " changed something", before.equals(scene.trace(once, twice)));
    }

    private static String told(String call, int... arguments) {
        StringBuilder text = new StringBuilder(call);
        for (int argument : arguments) {
            text.append(' ').append(argument);
        }
        return text.toString();
    }

    private void addCutter() {
        CHECK.sentence("addCutter throws IllegalArgumentException if module, least or most is out"
                + " of range");
        for (int module : Edges.outside(1, 4)) {
            refused(ARGUMENT, told("module", module), x -> x.addCutter(module, 8, 60));
        }
        for (int least : Edges.outside(8, 60)) {
            refused(ARGUMENT, told("least", least), x -> x.addCutter(1, least, 60));
            refused(ARGUMENT, told("least and most", least), x -> x.addCutter(1, least, least));
        }
        for (int least : new int[] {8, 9, 30, 60}) {
            for (int most : Edges.outside(least, 60)) {
                refused(ARGUMENT, told("most", least, most), x -> x.addCutter(4, least, most));
            }
        }
    }

    private void cutterFor() {
        CHECK.sentence("cutterFor throws IllegalArgumentException if module or teeth is out of"
                + " range");
        for (int module : Edges.outside(1, 4)) {
            refused(ARGUMENT, told("module", module), x -> x.cutterFor(module, 8));
        }
        for (int teeth : Edges.outside(8, 60)) {
            refused(ARGUMENT, told("teeth", teeth), x -> x.cutterFor(1, teeth));
        }
    }

    private void stage() {
        CHECK.sentence("stage throws IllegalArgumentException if module, driver or driven is out"
                + " of range");
        for (int module : Edges.outside(1, 4)) {
            refused(ARGUMENT, told("module", module), x -> x.stage(module, 8, 8));
        }
        for (int teeth : Edges.outside(8, 60)) {
            refused(ARGUMENT, told("driver", teeth), x -> x.stage(1, teeth, 8));
            refused(ARGUMENT, told("driven", teeth), x -> x.stage(1, 8, teeth));
            refused(ARGUMENT, told("both", teeth), x -> x.stage(4, teeth, teeth));
        }
    }

    private void make() {
        CHECK.sentence("make throws IllegalStateException if the draft is empty, its distance is"
                + " another one, or there are 8 trains");
        for (int distance : Edges.outside(scene.distance, scene.distance)) {
            refused(STATE, told("make", distance), x -> x.make(distance));
        }
        if (scene == Scene.EMPTY || scene == Scene.FULL) {
            refused(STATE, told("make", scene.distance), x -> x.make(scene.distance));
        }
    }

    private static void makeWithoutCutter() {
        CHECK.sentence("make throws IllegalStateException if a gear of it has no cutter");
        Cogwright x = new Cogwright();
        x.addCutter(1, 10, 20);
        x.stage(1, 10, 20);
        x.stage(1, 19, 21);
        CHECK.illegalState("21 teeth", () -> x.make(70));
        CHECK.same("no cutter came by that", -1, x.cutterFor(1, 21));
        CHECK.outOfBounds("no train came by that", () -> x.numerator(0));
        x.addCutter(1, 21, 21);
        CHECK.same("the draft stayed", 0, x.make(70));
        CHECK.same("with all its gears", 42, x.numerator(0));
        CHECK.same("with all its gears", 19, x.denominator(0));
        CHECK.same("it is empty now", 0, x.scrap());
    }

    private void ofTrains() {
        CHECK.sentence("IndexOutOfBoundsException is thrown if there is no such train");
        for (int train : Edges.noneOf(scene.trains)) {
            refused(BOUNDS, told("numerator", train), x -> x.numerator(train));
            refused(BOUNDS, told("denominator", train), x -> x.denominator(train));
            refused(BOUNDS, told("claims", train), x -> x.claims(train));
            refused(BOUNDS, told("order", train), x -> x.order(train));
            for (int turns : new int[] {0, 1, 600000, -1, 600001, Integer.MIN_VALUE}) {
                refused(BOUNDS, told("turned", train, turns), x -> x.turned(train, turns));
                refused(BOUNDS, told("turnedByWalk", train, turns),
                        x -> x.turnedByWalk(train, turns));
            }
        }
    }

    private void turns() {
        if (scene.trains == 0) {
            return;
        }
        CHECK.sentence("turned throws IllegalArgumentException if turns is out of range");
        for (int turns : Edges.outside(0, 600000)) {
            for (int train : Edges.inside(0, scene.trains - 1)) {
                refused(ARGUMENT, told("turned", train, turns), x -> x.turned(train, turns));
                refused(ARGUMENT, told("turnedByWalk", train, turns),
                        x -> x.turnedByWalk(train, turns));
            }
        }
    }

    private void order() {
        if (scene.orders < 12) {
            return;
        }
        CHECK.sentence("order throws IllegalStateException if there are 12 orders");
        for (int train = 0; train < scene.trains; train++) {
            int ordered = train;
            refused(STATE, told("order", train), x -> x.order(ordered));
        }
    }

    private void pass() {
        CHECK.sentence("pass throws IllegalArgumentException if ticks is out of range");
        for (int ticks : Edges.outside(1, 200)) {
            refused(ARGUMENT, told("pass", ticks), x -> x.pass(ticks));
        }
    }

    private void machines() {
        CHECK.sentence("IndexOutOfBoundsException is thrown if there is no such machine");
        for (int machine : Edges.noneOf(3)) {
            refused(BOUNDS, told("cutterOn", machine), x -> x.cutterOn(machine));
            refused(BOUNDS, told("ticksLeft", machine), x -> x.ticksLeft(machine));
        }
    }

    private void ofOrders() {
        CHECK.sentence("IndexOutOfBoundsException is thrown if there is no such order");
        for (int order : Edges.noneOf(scene.orders)) {
            refused(BOUNDS, told("gearsLeft", order), x -> x.gearsLeft(order));
            refused(BOUNDS, told("doneAt", order), x -> x.doneAt(order));
            refused(BOUNDS, told("wear", order), x -> x.wear(order, 0));
            refused(BOUNDS, told("wear", order, -1), x -> x.wear(order, -1));
        }
    }

    private void wear() {
        if (scene.orders == 0) {
            return;
        }
        CHECK.sentence("IndexOutOfBoundsException is thrown if there is no such stage");
        for (int stage : Edges.noneOf(1)) {
            refused(BOUNDS, told("wear 0", stage), x -> x.wear(0, stage));
            refused(BOUNDS, told("wear 1", stage), x -> x.wear(1, stage));
        }
        if (scene == Scene.BUSY || scene == Scene.DRAFTED) {
            for (int stage : Edges.noneOf(2)) {
                refused(BOUNDS, told("wear 2", stage), x -> x.wear(2, stage));
            }
        }
    }

    private static long tested(Cogwright x, int order, int load, int hours) {
        return x.test(order, load, hours) ? 1 : 0;
    }

    private void testOfNoOrder() {
        CHECK.sentence("test names IndexOutOfBoundsException first");
        for (int order : Edges.noneOf(scene.orders)) {
            refused(BOUNDS, told("test", order), x -> tested(x, order, 1, 1));
            refused(BOUNDS, told("test", order, 0, 1), x -> tested(x, order, 0, 1));
            refused(BOUNDS, told("test", order, 1, 101), x -> tested(x, order, 1, 101));
        }
    }

    // Order 0 can be tested, order 1 is broken, the last is not done.
    private void testArguments() {
        if (scene.orders == 0) {
            return;
        }
        CHECK.sentence("test names IllegalArgumentException, of load or hours, ahead of"
                + " IllegalStateException");
        for (int order : new int[] {0, 1, scene.orders - 1}) {
            for (int value : Edges.outside(1, 100)) {
                refused(ARGUMENT, told("load", order, value), x -> tested(x, order, value, 1));
                refused(ARGUMENT, told("hours", order, value), x -> tested(x, order, 100, value));
                refused(ARGUMENT, told("both", order, value), x -> tested(x, order, value, value));
            }
        }
    }

    private void testStates() {
        CHECK.sentence("test throws IllegalStateException if it is not done, or broken");
        for (int value : new int[] {1, 100}) {
            refused(STATE, told("broken", value), x -> tested(x, 1, value, value));
            refused(STATE, told("in work", value), x -> tested(x, 2, value, value));
            refused(STATE, told("in work, none cut", value), x -> tested(x, 3, value, value));
        }
    }

    private void fifthStage() {
        CHECK.sentence("stage throws IllegalStateException if the draft has 4 stages");
        refused(STATE, "the smallest", x -> x.stage(1, 8, 8));
        refused(STATE, "the greatest", x -> x.stage(4, 60, 60));
        refused(STATE, "of another ratio", x -> x.stage(3, 8, 60));
    }

    private void fullStates() {
        CHECK.sentence("addCutter throws IllegalStateException if there are 10");
        refused(STATE, "for more teeth", x -> x.addCutter(4, 60, 60));
        refused(STATE, "one like the first", x -> x.addCutter(1, 8, 40));
        CHECK.sentence("test throws IllegalStateException if it is not done, or broken");
        refused(STATE, "broken", x -> tested(x, 1, 1, 1));
        refused(STATE, "waits", x -> tested(x, 11, 1, 1));
    }

    private void leastNew() {
        CHECK.sentence("leastNew throws IllegalArgumentException if module, above or below is out"
                + " of range");
        for (int module : Edges.outside(1, 4)) {
            refused(ARGUMENT, told("module", module), x -> x.leastNew(module, 1, 1));
        }
        for (int term : Edges.outside(1, 400)) {
            refused(ARGUMENT, told("above", term), x -> x.leastNew(1, term, 1));
            refused(ARGUMENT, told("below", term), x -> x.leastNew(4, 400, term));
            refused(ARGUMENT, told("both", term), x -> x.leastNew(2, term, term));
        }
    }
}
