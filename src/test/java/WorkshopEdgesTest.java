/** The edges that the document names for orders and machines: promises 11 to 18. */
final class WorkshopEdgesTest {
    private static final Check CHECK = new Check("WorkshopEdgesTest");

    public static void main(String[] args) {
        atMostTwelveOrders();
        twelveOrdersThatAreDone();
        ordersOfNoTrain();
        ticksRange();
        passInParts();
        timeFirst();
        machinesAtFirst();
        machinesAreThree();
        shortestAndLongestJob();
        doneAtTheLastGear();
        doneAtTheTwoHundredthTick();
        driverFirst();
        behindEarlierOrders();
        cutterStays();
        setUpForEachChange();
        ownCutterAheadOfEarlierJobs();
        cutterOnAnotherMachine();
        cutterOnAnIdleMachine();
        lowestMachineFirst();
        fourCuttersForThreeMachines();
        lowestCutterOnly();
        allGearsWait();
        noOrderYet();
        numbersOfOrders();
        theLastOf512Calls();
        CHECK.end();
    }

    private static void machinesAre(Cogwright x, String when, int... due) {
        for (int machine = 0; machine < 3; machine++) {
            CHECK.same(when + ": cutterOn(" + machine + ")",
                    due[2 * machine], x.cutterOn(machine));
            CHECK.same(when + ": ticksLeft(" + machine + ")",
                    due[2 * machine + 1], x.ticksLeft(machine));
        }
    }

    private static void orderIs(Cogwright x, int order, int gearsLeft, int doneAt) {
        CHECK.same("at " + x.time() + ": gearsLeft(" + order + ")", gearsLeft, x.gearsLeft(order));
        CHECK.same("at " + x.time() + ": doneAt(" + order + ")", doneAt, x.doneAt(order));
    }

    private static void passed(Cogwright x, int ticks, int due) {
        CHECK.same("at " + x.time() + ": pass(" + ticks + ")", due, x.pass(ticks));
    }

    private static void atMostTwelveOrders() {
        CHECK.sentence("Orders are numbered from 0, at most 12.");
        Cogwright x = Samples.withAllCutters();
        Samples.train(x, 1, 8, 8);
        Samples.train(x, 2, 8, 8);
        for (int order = 0; order < 12; order++) {
            int next = order;
            CHECK.outOfBounds("not yet", () -> x.gearsLeft(next));
            CHECK.same("its number", order, x.order(order % 2));
            orderIs(x, order, 2, Cogwright.NONE);
            CHECK.same("its jobs wait", 2 * order + 2, x.waiting());
        }
        CHECK.illegalState("the thirteenth", () -> x.order(0));
        CHECK.illegalState("the thirteenth of another train", () -> x.order(1));
        CHECK.outOfBounds("the thirteenth of no train", () -> x.order(2));
        CHECK.outOfBounds("the thirteenth of train -1", () -> x.order(-1));
        CHECK.same("no more jobs wait", 24, x.waiting());
        CHECK.outOfBounds("it is not there", () -> x.gearsLeft(12));
    }

    private static void twelveOrdersThatAreDone() {
        CHECK.sentence("order throws IllegalStateException if there are 12 orders, done or broken");
        Cogwright x = Samples.withAllCutters();
        Samples.train(x, 1, 8, 8);
        for (int order = 0; order < 12; order++) {
            x.order(0);
        }
        passed(x, 195, 24);
        for (int order = 0; order < 12; order++) {
            orderIs(x, order, 0, 19 + 16 * order);
            CHECK.holds("broken", x.test(order, 100, 100));
        }
        CHECK.illegalState("the thirteenth", () -> x.order(0));
        CHECK.same("none waits", 0, x.waiting());
        CHECK.same("a claim for each", 12, x.claims(0));
    }

    private static void ordersOfNoTrain() {
        CHECK.sentence("order throws IndexOutOfBoundsException if there is no such train");
        Cogwright x = Samples.withAllCutters();
        for (int trains = 0; trains <= 8; trains++) {
            for (int none : Edges.noneOf(trains)) {
                CHECK.outOfBounds("order(" + none + ")", () -> x.order(none));
            }
            CHECK.same("none waits by that", 2 * trains, x.waiting());
            if (trains < 8) {
                Samples.train(x, 1, 8, 8);
                CHECK.same("the last train", trains, x.order(trains));
            }
        }
        x.stage(1, 8, 8);
        CHECK.same("the first train, with a draft begun", 8, x.order(0));
        CHECK.same("the draft stays", 1, x.scrap());
    }

    private static void ticksRange() {
        CHECK.sentence("ticks: 1 to 200");
        Cogwright x = Samples.withAllCutters();
        int time = 0;
        for (int ticks : Edges.inside(1, 200)) {
            passed(x, ticks, 0);
            time += ticks;
            CHECK.same("time", time, x.time());
        }
        for (int ticks : Edges.outside(1, 200)) {
            CHECK.illegalArgument("pass(" + ticks + ")", () -> x.pass(ticks));
        }
        CHECK.same("time", time, x.time());
    }

    private static void passInParts() {
        CHECK.sentence("pass returns how many gears are cut in them: 200 ticks at once as one by"
                + " one");
        Cogwright whole = Scene.FULL.build();
        Cogwright parts = Scene.FULL.build();
        int cut = 0;
        for (int tick = 0; tick < 200; tick++) {
            cut += parts.pass(1);
        }
        CHECK.same("gears", cut, whole.pass(200));
        CHECK.same("waiting", parts.waiting(), whole.waiting());
        for (int order = 0; order < 12; order++) {
            orderIs(whole, order, parts.gearsLeft(order), parts.doneAt(order));
        }
        machinesAre(whole, "then", parts.cutterOn(0), parts.ticksLeft(0), parts.cutterOn(1),
                parts.ticksLeft(1), parts.cutterOn(2), parts.ticksLeft(2));
    }

    private static void timeFirst() {
        CHECK.sentence("the time, 0 at first, becomes 1 more, with or without jobs");
        Cogwright x = Samples.withAllCutters();
        CHECK.same("at first", 0, x.time());
        passed(x, 1, 0);
        CHECK.same("a tick", 1, x.time());
        x.order(Samples.train(x, 1, 8, 8));
        CHECK.same("an order takes no tick", 1, x.time());
        machinesAre(x, "before its first tick", -1, 0, -1, 0, -1, 0);
        passed(x, 1, 0);
        CHECK.same("a tick", 2, x.time());
        passed(x, 18, 2);
        orderIs(x, 0, 0, 20);
    }

    private static void machinesAtFirst() {
        CHECK.sentence("A machine has a cutter on it, or none, as at first, and a job, or none.");
        Cogwright x = Samples.withAllCutters();
        machinesAre(x, "at first", -1, 0, -1, 0, -1, 0);
        passed(x, 200, 0);
        machinesAre(x, "without jobs", -1, 0, -1, 0, -1, 0);
        x.order(Samples.train(x, 4, 8, 9));
        passed(x, 1, 0);
        machinesAre(x, "one cutter in need", 3, 10, -1, 0, -1, 0);
        passed(x, 19, 2);
        machinesAre(x, "all cut", 3, 0, -1, 0, -1, 0);
    }

    private static void machinesAreThree() {
        CHECK.sentence("Machines are 0 to 2.");
        Cogwright x = Samples.withAllCutters();
        x.order(Samples.train(x, 1, 8, 8, 2, 9, 9, 3, 10, 10, 4, 11, 11));
        passed(x, 1, 0);
        machinesAre(x, "all three", 0, 10, 1, 11, 2, 12);
        for (int none : Edges.noneOf(3)) {
            CHECK.outOfBounds("cutterOn(" + none + ")", () -> x.cutterOn(none));
            CHECK.outOfBounds("ticksLeft(" + none + ")", () -> x.ticksLeft(none));
        }
        CHECK.same("the fourth cutter's jobs wait", 5, x.waiting());
    }

    private static void shortestAndLongestJob() {
        CHECK.sentence("A job is cut in as many ticks as the gear has teeth; 3 ticks of set-up"
                + " come ahead of the cutting");
        for (int teeth : Edges.inside(8, 60)) {
            Cogwright x = Samples.withAllCutters();
            x.order(Samples.train(x, 2, teeth, teeth));
            passed(x, 1, 0);
            machinesAre(x, "set-up", 1, teeth + 2, -1, 0, -1, 0);
            CHECK.same("the other gear waits", 1, x.waiting());
            passed(x, teeth + 1, 0);
            machinesAre(x, "a tick ahead", 1, 1, -1, 0, -1, 0);
            orderIs(x, 0, 2, -1);
            passed(x, 1, 1);
            machinesAre(x, "cut", 1, 0, -1, 0, -1, 0);
            orderIs(x, 0, 1, -1);
            CHECK.same("taken with the next tick", 1, x.waiting());
            passed(x, 1, 0);
            machinesAre(x, "no set-up", 1, teeth - 1, -1, 0, -1, 0);
            CHECK.same("none waits", 0, x.waiting());
            passed(x, teeth - 1, 1);
            orderIs(x, 0, 0, 2 * teeth + 3);
        }
    }

    private static void doneAtTheLastGear() {
        CHECK.sentence("An order is done when all its gears are cut; doneAt: NONE if it is not"
                + " done.");
        Cogwright x = Samples.withAllCutters();
        x.order(Samples.train(x, 1, 8, 10, 2, 8, 12));
        orderIs(x, 0, 4, -1);
        passed(x, 10, 0);
        orderIs(x, 0, 4, -1);
        passed(x, 1, 2);
        orderIs(x, 0, 2, -1);
        passed(x, 10, 1);
        orderIs(x, 0, 1, -1);
        passed(x, 1, 0);
        orderIs(x, 0, 1, -1);
        passed(x, 1, 1);
        orderIs(x, 0, 0, 23);
        passed(x, 200, 0);
        orderIs(x, 0, 0, 23);
    }

    private static void doneAtTheTwoHundredthTick() {
        CHECK.sentence("pass returns how many gears are cut in them: with the last tick, not"
                + " behind it");
        Cogwright x = Samples.withAllCutters();
        x.order(Samples.train(x, 1, 60, 60, 1, 60, 17));
        passed(x, 200, 4);
        orderIs(x, 0, 0, 200);
        Cogwright y = Samples.withAllCutters();
        y.order(Samples.train(y, 1, 60, 60, 1, 60, 18));
        passed(y, 200, 3);
        orderIs(y, 0, 1, -1);
        machinesAre(y, "a tick more", 0, 1, -1, 0, -1, 0);
        passed(y, 1, 1);
        orderIs(y, 0, 0, 201);
        machinesAre(y, "cut", 0, 0, -1, 0, -1, 0);
    }

    // One cutter for all, so that machine 0 cuts the whole row.
    private static void cutsInTurn(Cogwright x, int... teeth) {
        for (int i = 0; i < teeth.length; i++) {
            int ticks = teeth[i] + (i == 0 ? 3 : 0);
            passed(x, 1, 0);
            CHECK.same("gear " + i + " of the row", ticks - 1, x.ticksLeft(0));
            CHECK.same("waiting behind gear " + i, teeth.length - 1 - i, x.waiting());
            passed(x, ticks - 1, 1);
        }
        CHECK.same("none is left", 0, x.ticksLeft(0));
    }

    private static void driverFirst() {
        CHECK.sentence("its gears, stage by stage, the driver first, are jobs that wait in one"
                + " row");
        Cogwright x = Samples.withAllCutters();
        x.order(Samples.train(x, 1, 20, 8, 1, 19, 9, 1, 10, 18, 1, 60, 11));
        CHECK.same("all wait", 8, x.waiting());
        cutsInTurn(x, 20, 8, 19, 9, 10, 18, 60, 11);
        orderIs(x, 0, 0, 158);
    }

    private static void behindEarlierOrders() {
        CHECK.sentence("jobs that wait in one row, behind those of earlier orders");
        Cogwright x = Samples.withAllCutters();
        Samples.train(x, 1, 8, 9);
        Samples.train(x, 1, 10, 11, 1, 12, 13);
        x.order(1);
        x.order(0);
        x.order(1);
        cutsInTurn(x, 10, 11, 12, 13, 8, 9, 10, 11, 12, 13);
        orderIs(x, 0, 0, 49);
        orderIs(x, 1, 0, 66);
        orderIs(x, 2, 0, 112);
    }

    private static void cutterStays() {
        CHECK.sentence("the machine has no job any more; its cutter stays on it");
        Cogwright x = Samples.withAllCutters();
        Samples.train(x, 3, 8, 8);
        x.order(0);
        passed(x, 19, 2);
        passed(x, 50, 0);
        machinesAre(x, "long after", 2, 0, -1, 0, -1, 0);
        x.order(0);
        passed(x, 1, 0);
        machinesAre(x, "no set-up then", 2, 7, -1, 0, -1, 0);
        passed(x, 15, 2);
        orderIs(x, 1, 0, 85);
    }

    private static void setUpForEachChange() {
        CHECK.sentence("the first waiting job whose cutter is on no other machine, which it puts"
                + " on, and 3 ticks of set-up come ahead of the cutting");
        Cogwright x = Samples.withAllCutters();
        Samples.train(x, 1, 8, 8);
        Samples.train(x, 2, 8, 8);
        for (int round = 0; round < 3; round++) {
            for (int train = 0; train < 2; train++) {
                x.order(train);
                passed(x, 1, 0);
                machinesAre(x, "machine 0 changes its cutter", train, 10, -1, 0, -1, 0);
                passed(x, 17, 1);
                passed(x, 1, 1);
                orderIs(x, 2 * round + train, 0, 19 * (2 * round + train + 1));
            }
        }
    }

    private static void ownCutterAheadOfEarlierJobs() {
        CHECK.sentence("it takes the first waiting job whose cutter it has on it");
        Cogwright x = Samples.withAllCutters();
        x.order(Samples.train(x, 1, 8, 9, 2, 8, 9, 1, 10, 11, 2, 10, 11));
        passed(x, 1, 0);
        machinesAre(x, "a cutter each", 0, 10, 1, 10, -1, 0);
        passed(x, 10, 2);
        passed(x, 1, 0);
        machinesAre(x, "the second of its own", 0, 8, 1, 8, -1, 0);
        passed(x, 8, 2);
        passed(x, 1, 0);
        machinesAre(x, "the third of its own", 0, 9, 1, 9, -1, 0);
        passed(x, 9, 2);
        passed(x, 1, 0);
        machinesAre(x, "the last of its own", 0, 10, 1, 10, -1, 0);
        CHECK.same("none waits", 0, x.waiting());
        passed(x, 10, 2);
        orderIs(x, 0, 0, 41);
    }

    private static void cutterOnAnotherMachine() {
        CHECK.sentence("if there is none either, it stays without a job");
        Cogwright x = Samples.withAllCutters();
        x.order(Samples.train(x, 1, 60, 60, 1, 60, 60, 1, 60, 60, 1, 60, 60));
        for (int gear = 0; gear < 8; gear++) {
            passed(x, gear == 0 ? 3 : 1, 0);
            machinesAre(x, "all need the one cutter", 0, gear == 0 ? 60 : 59, -1, 0, -1, 0);
            CHECK.same("the rest waits", 7 - gear, x.waiting());
            passed(x, gear == 0 ? 60 : 59, 1);
        }
        orderIs(x, 0, 0, 483);
    }

    private static void cutterOnAnIdleMachine() {
        CHECK.sentence("whose cutter is on no other machine, with a job or without");
        Cogwright x = Samples.withAllCutters();
        Samples.train(x, 1, 8, 8, 2, 8, 8, 3, 8, 8);
        Samples.train(x, 3, 30, 30);
        x.order(0);
        passed(x, 19, 6);
        machinesAre(x, "idle with cutters", 0, 0, 1, 0, 2, 0);
        x.order(1);
        passed(x, 1, 0);
        machinesAre(x, "only the last has it", 0, 0, 1, 0, 2, 29);
        CHECK.same("the other gear waits", 1, x.waiting());
        passed(x, 59, 2);
        machinesAre(x, "cut by the last alone", 0, 0, 1, 0, 2, 0);
        orderIs(x, 1, 0, 79);
    }

    private static void lowestMachineFirst() {
        CHECK.sentence("for each machine without a job, by their numbers");
        Cogwright x = Samples.withAllCutters();
        Samples.train(x, 1, 8, 60, 2, 8, 60);
        Samples.train(x, 4, 20, 20, 3, 10, 10);
        x.order(0);
        passed(x, 100, 4);
        machinesAre(x, "idle", 0, 0, 1, 0, -1, 0);
        x.order(1);
        passed(x, 1, 0);
        machinesAre(x, "0 takes the first, 1 the next", 3, 22, 2, 12, -1, 0);
        CHECK.same("2 takes none of the same cutters", 2, x.waiting());
        Cogwright y = Samples.withAllCutters();
        Samples.train(y, 4, 20, 20, 1, 10, 10);
        y.order(Samples.train(y, 1, 8, 8));
        passed(y, 19, 2);
        y.order(0);
        passed(y, 1, 0);
        machinesAre(y, "0 has the cutter of the later job", 0, 9, 3, 22, -1, 0);
    }

    private static void fourCuttersForThreeMachines() {
        CHECK.sentence("the first waiting job whose cutter is on no other machine: a fourth"
                + " cutter waits for a machine without a job of its own");
        Cogwright x = Samples.withAllCutters();
        x.order(Samples.train(x, 1, 8, 60, 2, 60, 60, 3, 60, 60, 4, 8, 8));
        passed(x, 71, 4);
        machinesAre(x, "0 has cut its own", 0, 0, 1, 52, 2, 52);
        CHECK.same("two wait", 2, x.waiting());
        passed(x, 1, 0);
        machinesAre(x, "and changes", 3, 10, 1, 51, 2, 51);
        passed(x, 9, 0);
        passed(x, 1, 1);
        passed(x, 8, 1);
        machinesAre(x, "the rest", 3, 0, 1, 33, 2, 33);
        passed(x, 32, 0);
        orderIs(x, 0, 2, -1);
        passed(x, 1, 2);
        orderIs(x, 0, 0, 123);
    }

    private static void lowestCutterOnly() {
        CHECK.sentence("The cutter of a gear is the one with the lowest number, for its job too");
        Cogwright x = new Cogwright();
        x.addCutter(1, 8, 8);
        x.addCutter(1, 8, 9);
        x.addCutter(1, 9, 60);
        x.order(Samples.train(x, 1, 8, 9, 1, 8, 9, 1, 10, 10));
        x.addCutter(1, 8, 60);
        passed(x, 1, 0);
        machinesAre(x, "8 by 0, 9 by 1, 10 by 2", 0, 10, 1, 11, 2, 12);
        passed(x, 11, 2);
        machinesAre(x, "each waits for its own", 0, 7, 1, 0, 2, 1);
        CHECK.same("waiting", 2, x.waiting());
        passed(x, 9, 3);
        passed(x, 1, 0);
        passed(x, 1, 1);
        orderIs(x, 0, 0, 23);
    }

    private static void allGearsWait() {
        CHECK.sentence("waiting: 12 orders of 4 stages, as many jobs as can wait");
        Cogwright x = Samples.withAllCutters();
        Samples.train(x, 1, 8, 8, 2, 8, 8, 3, 8, 8, 4, 8, 8);
        CHECK.same("none", 0, x.waiting());
        for (int order = 0; order < 12; order++) {
            x.order(0);
            CHECK.same("waiting", 8 * order + 8, x.waiting());
            CHECK.same("gearsLeft", 8, x.gearsLeft(order));
        }
        passed(x, 1, 0);
        CHECK.same("jobs in work wait no more", 93, x.waiting());
        passed(x, 10, 3);
        CHECK.same("they are taken with the next tick", 93, x.waiting());
        // 24 gears a cutter: three at once in 195 ticks, then the fourth alone.
        passed(x, 184, 69);
        CHECK.same("those of the fourth cutter", 24, x.waiting());
        passed(x, 194, 23);
        orderIs(x, 11, 1, -1);
        orderIs(x, 10, 0, 195 + 3 + 8 * 22);
        passed(x, 1, 1);
        orderIs(x, 11, 0, 390);
        CHECK.same("none", 0, x.waiting());
        machinesAre(x, "all cut", 3, 0, 1, 0, 2, 0);
    }

    private static void noOrderYet() {
        CHECK.sentence("gearsLeft and doneAt throw IndexOutOfBoundsException if there is no order");
        Cogwright x = Samples.withAllCutters();
        Samples.train(x, 1, 8, 8);
        for (int none : Edges.noneOf(0)) {
            CHECK.outOfBounds("gearsLeft(" + none + ")", () -> x.gearsLeft(none));
            CHECK.outOfBounds("doneAt(" + none + ")", () -> x.doneAt(none));
        }
    }

    private static void numbersOfOrders() {
        CHECK.sentence("IndexOutOfBoundsException is thrown if there is no such order.");
        Cogwright x = Samples.withAllCutters();
        Samples.train(x, 1, 8, 8);
        for (int orders = 0; orders <= 12; orders++) {
            for (int none : new int[] {-1, orders, orders + 1, Integer.MIN_VALUE}) {
                CHECK.outOfBounds("gearsLeft(" + none + ")", () -> x.gearsLeft(none));
                CHECK.outOfBounds("doneAt(" + none + ")", () -> x.doneAt(none));
            }
            if (orders < 12) {
                x.order(0);
                orderIs(x, orders, 2, -1);
            }
        }
    }

    private static void theLastOf512Calls() {
        CHECK.sentence("An object is used for at most 512 calls after it has been made.");
        Cogwright x = Samples.withAllCutters();
        for (int call = 4; call < 511; call++) {
            x.pass(200);
        }
        CHECK.same("the time of 507 long passes", 101400, x.time());
        Cogwright y = Samples.withAllCutters();
        for (int call = 4; call < 510; call += 2) {
            y.stage(1, 8, 8);
            CHECK.same("a stage each time", 1, y.scrap());
        }
        CHECK.same("call 511", 16, y.stage(1, 8, 8));
        CHECK.same("call 512", 0, y.make(16));
    }
}
