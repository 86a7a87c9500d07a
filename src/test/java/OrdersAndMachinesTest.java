/** Promises 11 to 18, and what the terms say of orders and machines. */
final class OrdersAndMachinesTest {
    private static final Check CHECK = new Check("OrdersAndMachinesTest");

    public static void main(String[] args) {
        order();
        orderRefuses();
        passRefuses();
        idlePasses();
        setUpOnce();
        ownCutterFirst();
        cutterOnAnotherMachine();
        lowestCutterOnly();
        twoCutInOneTick();
        machinesOutOfBounds();
        ordersOutOfBounds();
        CHECK.end();
    }

    private static void machinesAre(Cogwright x, String when, int... due) {
        for (int machine = 0; machine < 3; machine++) {
            CHECK.same(when + ": cutterOn(" + machine + ")",
                    due[2 * machine], x.cutterOn(machine));
            CHECK.same(when + ": ticksLeft(" + machine + ")",
                    due[2 * machine + 1], x.ticksLeft(machine));
        }
    }

    private static void order() {
        Cogwright x = Samples.withAllCutters();
        int one = Samples.train(x, 1, 10, 20);
        int four = Samples.train(x, 1, 8, 9, 2, 8, 9, 3, 8, 9, 4, 8, 9);
        CHECK.same("first order", 0, x.order(four));
        CHECK.same("waiting", 8, x.waiting());
        CHECK.same("second order", 1, x.order(one));
        CHECK.same("waiting", 10, x.waiting());
        CHECK.same("gears of the first", 8, x.gearsLeft(0));
        CHECK.same("gears of the second", 2, x.gearsLeft(1));
        CHECK.same("not done", -1, x.doneAt(0));
        CHECK.same("not done", -1, x.doneAt(1));
        machinesAre(x, "before a tick", -1, 0, -1, 0, -1, 0);
        CHECK.same("time", 0, x.time());
    }

    private static void orderRefuses() {
        Cogwright x = Samples.withAllCutters();
        CHECK.outOfBounds("no train yet", () -> x.order(0));
        int train = Samples.train(x, 1, 8, 8);
        for (int none : new int[] {-1, 1, Integer.MIN_VALUE, Integer.MAX_VALUE}) {
            CHECK.outOfBounds("order(" + none + ")", () -> x.order(none));
        }
        for (int order = 0; order < 12; order++) {
            CHECK.same("order", order, x.order(train));
        }
        CHECK.illegalState("the thirteenth", () -> x.order(train));
        CHECK.outOfBounds("bounds ahead of state", () -> x.order(1));
        CHECK.same("nothing more waits", 24, x.waiting());
        CHECK.outOfBounds("no thirteenth", () -> x.gearsLeft(12));
        CHECK.same("all gears are cut", 24, x.pass(200));
        CHECK.illegalState("ordered, done or not", () -> x.order(train));
    }

    private static void passRefuses() {
        Cogwright x = Samples.withAllCutters();
        for (int ticks : new int[] {0, -1, 201, Integer.MIN_VALUE, Integer.MAX_VALUE}) {
            CHECK.illegalArgument("pass(" + ticks + ")", () -> x.pass(ticks));
        }
        CHECK.same("no time passed", 0, x.time());
    }

    private static void idlePasses() {
        Cogwright x = Samples.withAllCutters();
        CHECK.same("nothing to cut", 0, x.pass(1));
        CHECK.same("time", 1, x.time());
        CHECK.same("nothing to cut", 0, x.pass(200));
        CHECK.same("time", 201, x.time());
        machinesAre(x, "idle", -1, 0, -1, 0, -1, 0);
    }

    private static void setUpOnce() {
        Cogwright x = Samples.withAllCutters();
        x.order(Samples.train(x, 1, 8, 9));
        CHECK.same("first tick", 0, x.pass(1));
        machinesAre(x, "the driver first, with set-up", 0, 10, -1, 0, -1, 0);
        CHECK.same("one waits", 1, x.waiting());
        CHECK.same("two are not cut", 2, x.gearsLeft(0));
        CHECK.same("not yet", 0, x.pass(9));
        machinesAre(x, "one tick ahead", 0, 1, -1, 0, -1, 0);
        CHECK.same("cut", 1, x.pass(1));
        machinesAre(x, "cut, the cutter stays", 0, 0, -1, 0, -1, 0);
        CHECK.same("still one waits", 1, x.waiting());
        CHECK.same("one is not cut", 1, x.gearsLeft(0));
        CHECK.same("not done", -1, x.doneAt(0));
        CHECK.same("next job", 0, x.pass(1));
        machinesAre(x, "without set-up", 0, 8, -1, 0, -1, 0);
        CHECK.same("none waits", 0, x.waiting());
        CHECK.same("not yet", 0, x.pass(7));
        CHECK.same("not done", -1, x.doneAt(0));
        CHECK.same("cut", 1, x.pass(1));
        CHECK.same("none is left", 0, x.gearsLeft(0));
        CHECK.same("done", 20, x.doneAt(0));
        CHECK.same("nothing more", 0, x.pass(30));
        CHECK.same("done as before", 20, x.doneAt(0));
        CHECK.same("time", 50, x.time());
    }

    private static void ownCutterFirst() {
        Cogwright x = Samples.withAllCutters();
        int train = Samples.train(x, 1, 8, 10, 2, 20, 20, 3, 30, 30, 4, 8, 8);
        x.order(train);
        x.order(train);
        x.pass(1);
        machinesAre(x, "tick 1", 0, 10, 1, 22, 2, 32);
        CHECK.same("waiting at 1", 13, x.waiting());
        CHECK.same("to tick 11", 1, x.pass(10));
        x.pass(1);
        machinesAre(x, "tick 12", 0, 9, 1, 11, 2, 21);
        CHECK.same("to tick 21", 1, x.pass(9));
        x.pass(1);
        machinesAre(x, "tick 22: past the earlier job of module 4", 0, 7, 1, 1, 2, 11);
        CHECK.same("to tick 39", 4, x.pass(17));
        machinesAre(x, "tick 39", 0, 0, 1, 4, 2, 24);
        x.pass(1);
        machinesAre(x, "tick 40: another cutter", 3, 10, 1, 3, 2, 23);
        CHECK.same("to tick 50", 2, x.pass(10));
        x.pass(1);
        machinesAre(x, "tick 51", 3, 7, 1, 12, 2, 12);
        CHECK.same("to tick 62", 1, x.pass(11));
        CHECK.same("one gear is in work", 1, x.gearsLeft(0));
        CHECK.same("both at tick 63", 2, x.pass(1));
        CHECK.same("the first is done", 63, x.doneAt(0));
        CHECK.same("the second is not", -1, x.doneAt(1));
        CHECK.same("gears of the second", 5, x.gearsLeft(1));
        CHECK.same("to the end", 5, x.pass(60));
        CHECK.same("the second is done", 123, x.doneAt(1));
    }

    private static void cutterOnAnotherMachine() {
        Cogwright x = Samples.withAllCutters();
        x.order(Samples.train(x, 1, 8, 8, 2, 8, 8));
        CHECK.same("all cut", 4, x.pass(19));
        machinesAre(x, "idle", 0, 0, 1, 0, -1, 0);
        x.order(Samples.train(x, 2, 12, 13));
        x.pass(1);
        machinesAre(x, "machine 1 has the cutter", 0, 0, 1, 11, -1, 0);
        CHECK.same("the other gear waits", 1, x.waiting());
        x.order(Samples.train(x, 4, 20, 20, 1, 30, 30));
        x.pass(1);
        machinesAre(x, "own cutter, then a new one", 0, 29, 1, 10, 3, 22);
        CHECK.same("three wait", 3, x.waiting());
    }

    private static void lowestCutterOnly() {
        Cogwright x = new Cogwright();
        x.addCutter(1, 12, 60);
        x.addCutter(1, 8, 60);
        x.order(Samples.train(x, 1, 12, 13, 1, 11, 14));
        x.pass(1);
        machinesAre(x, "the lowest cutter alone", 0, 14, 1, 13, -1, 0);
        x.addCutter(1, 8, 60);
        x.pass(1);
        machinesAre(x, "a later cutter takes no job", 0, 13, 1, 12, -1, 0);
        CHECK.same("two wait", 2, x.waiting());
    }

    private static void twoCutInOneTick() {
        Cogwright x = Samples.withAllCutters();
        x.order(Samples.train(x, 1, 20, 8));
        x.order(Samples.train(x, 2, 20, 8));
        x.order(Samples.train(x, 3, 20, 8));
        CHECK.same("none yet", 0, x.pass(22));
        CHECK.same("three at once", 3, x.pass(1));
        CHECK.same("three wait", 3, x.waiting());
        CHECK.same("all at once", 3, x.pass(8));
        for (int order = 0; order < 3; order++) {
            CHECK.same("done", 31, x.doneAt(order));
        }
    }

    private static void machinesOutOfBounds() {
        Cogwright x = Samples.withAllCutters();
        for (int none : new int[] {-1, 3, Integer.MIN_VALUE, Integer.MAX_VALUE}) {
            CHECK.outOfBounds("cutterOn(" + none + ")", () -> x.cutterOn(none));
            CHECK.outOfBounds("ticksLeft(" + none + ")", () -> x.ticksLeft(none));
        }
    }

    private static void ordersOutOfBounds() {
        Cogwright x = Samples.withAllCutters();
        int train = Samples.train(x, 1, 8, 8);
        CHECK.outOfBounds("gearsLeft without orders", () -> x.gearsLeft(0));
        CHECK.outOfBounds("doneAt without orders", () -> x.doneAt(0));
        x.order(train);
        for (int none : new int[] {-1, 1, Integer.MIN_VALUE, Integer.MAX_VALUE}) {
            CHECK.outOfBounds("gearsLeft(" + none + ")", () -> x.gearsLeft(none));
            CHECK.outOfBounds("doneAt(" + none + ")", () -> x.doneAt(none));
        }
    }
}
