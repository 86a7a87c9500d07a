/** The edges that the document names for tests, wear and claims: promises 19 to 21. */
final class WearEdgesTest {
    private static final Check CHECK = new Check("WearEdgesTest");

    public static void main(String[] args) {
        loadAndHours();
        leastAndMostWear();
        roundedDown();
        roundedDownEachTest();
        brokenAboveTenTimes();
        brokenAtOnce();
        lesserOfBothGears();
        eachStageBreaksTheOrder();
        oneClaimForSeveralStages();
        notDone();
        brokenIsTestedNoMore();
        claimsForItsTrain();
        twelveClaims();
        wearOfEachOrderAlone();
        stagesOfAnOrder();
        wearOfNoOrder();
        claimsOfNoTrain();
        CHECK.end();
    }

    /** An object with an order of a train of one stage that is done. */
    private static Cogwright cut(int module, int driver, int driven) {
        Cogwright x = Samples.withAllCutters();
        x.order(Samples.train(x, module, driver, driven));
        x.pass(123);
        return x;
    }

    private static void tested(Cogwright x, int order, int load, int hours, boolean due) {
        CHECK.holds("test(" + order + ", " + load + ", " + hours + "), due is " + due,
                x.test(order, load, hours) == due);
    }

    private static void refused(Cogwright x, int order) {
        CHECK.illegalState("test(" + order + ", 1, 1)", () -> x.test(order, 1, 1) ? 1 : 0);
    }

    private static void loadAndHours() {
        CHECK.sentence("load: 1 to 100, hours: 1 to 100");
        for (int load : Edges.inside(1, 100)) {
            for (int hours : Edges.inside(1, 100)) {
                Cogwright x = cut(1, 60, 60);
                tested(x, 0, load, hours, load * hours > 600);
                CHECK.same("wear", load * hours, x.wear(0, 0));
            }
        }
        Cogwright x = cut(1, 60, 60);
        for (int value : Edges.outside(1, 100)) {
            CHECK.illegalArgument("load " + value, () -> x.test(0, value, 1) ? 1 : 0);
            CHECK.illegalArgument("hours " + value, () -> x.test(0, 1, value) ? 1 : 0);
            CHECK.illegalArgument("both " + value, () -> x.test(0, value, value) ? 1 : 0);
        }
        // Their product comes round to 0, or to 1.
        CHECK.illegalArgument("65536", () -> x.test(0, 65536, 65536) ? 1 : 0);
        CHECK.illegalArgument("-1", () -> x.test(0, -1, -1) ? 1 : 0);
        CHECK.same("no wear by these", 0, x.wear(0, 0));
    }

    private static void leastAndMostWear() {
        CHECK.sentence("By that the wear of each stage grows by load * hours / module");
        int[] least = {1, 0, 0, 0};
        int[] most = {10000, 5000, 3333, 2500};
        for (int module = 1; module <= 4; module++) {
            Cogwright x = cut(module, 8, 8);
            CHECK.same("at first", 0, x.wear(0, 0));
            tested(x, 0, 1, 1, false);
            CHECK.same("the least", least[module - 1], x.wear(0, 0));
            tested(x, 0, 100, 100, true);
            CHECK.same("the most", least[module - 1] + most[module - 1], x.wear(0, 0));
        }
    }

    private static void roundedDown() {
        CHECK.sentence("load * hours / module, rounded down");
        for (int module = 1; module <= 4; module++) {
            for (int load = 1; load <= 3 * module; load++) {
                Cogwright x = cut(module, 8, 60);
                tested(x, 0, load, 1, false);
                CHECK.same(load + " by " + module, load / module, x.wear(0, 0));
                Cogwright y = cut(module, 8, 60);
                tested(y, 0, 1, load, false);
                CHECK.same(load + " by " + module, load / module, y.wear(0, 0));
            }
        }
        Cogwright x = cut(4, 8, 8);
        tested(x, 0, 7, 5, false);
        CHECK.same("the product is divided, 35 by 4", 8, x.wear(0, 0));
    }

    private static void roundedDownEachTest() {
        CHECK.sentence("the wear grows by what one test gives, rounded down");
        for (int module = 2; module <= 4; module++) {
            Cogwright x = cut(module, 8, 8);
            for (int i = 0; i < 100; i++) {
                tested(x, 0, module - 1, 1, false);
            }
            CHECK.same("a hundred times nothing", 0, x.wear(0, 0));
            for (int i = 1; i <= 80; i++) {
                tested(x, 0, 1, 2 * module - 1, false);
                CHECK.same("one each time", i, x.wear(0, 0));
            }
            tested(x, 0, module - 1, 1, false);
            tested(x, 0, module, 1, true);
        }
    }

    private static void brokenAboveTenTimes() {
        CHECK.sentence("A stage is broken if its wear is more than 10 times the lesser number of"
                + " teeth of its gears");
        for (int module = 1; module <= 4; module++) {
            for (int teeth : new int[] {8, 9, 30, 59, 60}) {
                Cogwright x = cut(module, teeth, teeth);
                tested(x, 0, teeth, 10 * module - 1, false);
                CHECK.same("below", (teeth * (10 * module - 1)) / module, x.wear(0, 0));
                x = cut(module, teeth, teeth);
                tested(x, 0, teeth, 10 * module, false);
                CHECK.same("just 10 times", 10 * teeth, x.wear(0, 0));
                CHECK.same("no claim", 0, x.claims(0));
                tested(x, 0, 1, module, true);
                CHECK.same("one more", 10 * teeth + 1, x.wear(0, 0));
                CHECK.same("a claim", 1, x.claims(0));
            }
        }
    }

    private static void brokenAtOnce() {
        CHECK.sentence("A stage is broken if its wear is more than 10 times: by one test");
        int[][] rows = {
            {1, 80, 1}, {1, 81, 1}, {2, 7, 23}, {2, 81, 2}, {3, 11, 22}, {3, 81, 3},
            {4, 17, 19}, {4, 81, 4},
        };
        for (int i = 0; i < rows.length; i++) {
            Cogwright x = cut(rows[i][0], 8, 8);
            boolean due = i % 2 == 1;
            tested(x, 0, rows[i][1], rows[i][2], due);
            CHECK.same("wear", due ? 81 : 80, x.wear(0, 0));
            CHECK.same("claims", due ? 1 : 0, x.claims(0));
        }
    }

    private static void lesserOfBothGears() {
        CHECK.sentence("the lesser number of teeth of its gears");
        int[][] gears = {{8, 60}, {60, 8}, {8, 9}, {9, 8}, {59, 60}, {60, 59}, {60, 60}};
        for (int[] gear : gears) {
            int lesser = Math.min(gear[0], gear[1]);
            Cogwright x = cut(2, gear[0], gear[1]);
            tested(x, 0, lesser, 20, false);
            tested(x, 0, 2, 1, true);
            CHECK.same("wear", 10 * lesser + 1, x.wear(0, 0));
        }
    }

    private static void eachStageBreaksTheOrder() {
        CHECK.sentence("A stage is broken ..; the order is broken then: each of four stages");
        int[] gears = {1, 60, 60, 1, 60, 60, 1, 60, 60, 1, 60, 60};
        for (int weak = 0; weak < 4; weak++) {
            for (int side = 1; side <= 2; side++) {
                int[] stages = gears.clone();
                stages[3 * weak + side] = 20;
                Cogwright x = Samples.withAllCutters();
                x.order(Samples.train(x, stages));
                x.pass(200);
                x.pass(200);
                x.pass(200);
                tested(x, 0, 100, 2, false);
                tested(x, 0, 1, 1, true);
                CHECK.same("one claim", 1, x.claims(0));
                for (int stage = 0; stage < 4; stage++) {
                    CHECK.same("all stages wear", 201, x.wear(0, stage));
                }
                refused(x, 0);
            }
        }
    }

    private static void oneClaimForSeveralStages() {
        CHECK.sentence("the order is broken then, and there is one claim more for its train.");
        for (int stages = 1; stages <= 4; stages++) {
            Cogwright x = Samples.withAllCutters();
            for (int i = 1; i < stages; i++) {
                x.stage(1, 8, 8);
            }
            x.order(x.make(x.stage(1, 8, 8)));
            x.pass(200);
            CHECK.same("none ahead", 0, x.claims(0));
            tested(x, 0, 100, 100, true);
            CHECK.same("one claim for " + stages + " stages", 1, x.claims(0));
            for (int stage = 0; stage < stages; stage++) {
                CHECK.same("all stages wear", 10000, x.wear(0, stage));
            }
        }
    }

    private static void notDone() {
        CHECK.sentence("test throws IllegalStateException if it is not done");
        Cogwright x = Samples.withAllCutters();
        x.order(Samples.train(x, 1, 8, 8));
        refused(x, 0);
        x.pass(1);
        refused(x, 0);
        x.pass(10);
        CHECK.same("the driver is cut", 1, x.gearsLeft(0));
        refused(x, 0);
        x.pass(7);
        CHECK.same("a tick is left", 1, x.ticksLeft(0));
        refused(x, 0);
        CHECK.same("no wear", 0, x.wear(0, 0));
        CHECK.same("no claim", 0, x.claims(0));
        x.pass(1);
        tested(x, 0, 1, 1, false);
        x.order(0);
        refused(x, 1);
        tested(x, 0, 1, 1, false);
        CHECK.same("the done one wears", 2, x.wear(0, 0));
        CHECK.same("the waiting one does not", 0, x.wear(1, 0));
    }

    private static void brokenIsTestedNoMore() {
        CHECK.sentence("test throws IllegalStateException if it is broken");
        Cogwright x = cut(1, 8, 8);
        tested(x, 0, 81, 1, true);
        for (int i = 0; i < 3; i++) {
            refused(x, 0);
            CHECK.same("wear", 81, x.wear(0, 0));
            CHECK.same("claims", 1, x.claims(0));
        }
        CHECK.same("it stays done", 19, x.doneAt(0));
        CHECK.same("all cut", 0, x.gearsLeft(0));
        x.order(0);
        x.pass(200);
        tested(x, 1, 80, 1, false);
        refused(x, 0);
        CHECK.same("claims", 1, x.claims(0));
    }

    private static void claimsForItsTrain() {
        CHECK.sentence("one claim more for its train, and for no other");
        Cogwright x = Samples.withAllCutters();
        for (int train = 0; train < 8; train++) {
            Samples.train(x, 1, 8, 8);
        }
        int[] due = new int[8];
        for (int order = 0; order < 12; order++) {
            x.order((order * 5) % 8);
        }
        x.pass(200);
        for (int order = 11; order >= 0; order--) {
            tested(x, order, 9, 9, true);
            due[(order * 5) % 8]++;
            for (int train = 0; train < 8; train++) {
                CHECK.same("claims(" + train + ")", due[train], x.claims(train));
            }
        }
    }

    private static void twelveClaims() {
        CHECK.sentence("claims: from none to one for each of 12 orders");
        Cogwright x = Samples.withAllCutters();
        Samples.train(x, 1, 8, 8);
        for (int order = 0; order < 12; order++) {
            x.order(0);
        }
        x.pass(200);
        for (int order = 0; order < 12; order++) {
            CHECK.same("ahead", order, x.claims(0));
            tested(x, order, 10, 8, false);
            CHECK.same("whole, no claim", order, x.claims(0));
            tested(x, order, 1, 1, true);
            CHECK.same("then", order + 1, x.claims(0));
        }
    }

    private static void wearOfEachOrderAlone() {
        CHECK.sentence("the wear of a stage of an order: orders of one train wear each alone");
        Cogwright x = Samples.withAllCutters();
        Samples.train(x, 1, 60, 60);
        x.order(0);
        x.order(0);
        x.pass(200);
        x.pass(43);
        tested(x, 0, 100, 6, false);
        CHECK.same("the other", 0, x.wear(1, 0));
        tested(x, 1, 100, 6, false);
        tested(x, 0, 1, 1, true);
        CHECK.same("the other", 600, x.wear(1, 0));
        CHECK.same("the broken one", 601, x.wear(0, 0));
        tested(x, 1, 1, 1, true);
    }

    private static void stagesOfAnOrder() {
        CHECK.sentence("stage: from 0; IndexOutOfBoundsException if there is no such stage");
        Cogwright x = Samples.withAllCutters();
        for (int stages = 1; stages <= 4; stages++) {
            for (int i = 1; i < stages; i++) {
                x.stage(1, 8, 8);
            }
            int order = x.order(x.make(x.stage(1, 8, 8)));
            for (int stage = 0; stage < stages; stage++) {
                CHECK.same("no wear", 0, x.wear(order, stage));
            }
            for (int none : Edges.noneOf(stages)) {
                CHECK.outOfBounds("wear of stage " + none, () -> x.wear(order, none));
            }
        }
    }

    private static void wearOfNoOrder() {
        CHECK.sentence("wear and test throw IndexOutOfBoundsException if there is no such order");
        Cogwright x = Samples.withAllCutters();
        Samples.train(x, 1, 8, 8);
        for (int orders = 0; orders <= 12; orders++) {
            for (int none : new int[] {-1, orders, orders + 1, Integer.MIN_VALUE}) {
                CHECK.outOfBounds("wear(" + none + ", 0)", () -> x.wear(none, 0));
                CHECK.outOfBounds("wear(" + none + ", 1)", () -> x.wear(none, 1));
                CHECK.outOfBounds("test(" + none + ")", () -> x.test(none, 1, 1) ? 1 : 0);
                CHECK.outOfBounds("load 0 as well", () -> x.test(none, 0, 1) ? 1 : 0);
            }
            if (orders < 12) {
                CHECK.same("wear of the last", 0, x.wear(x.order(0), 0));
            }
        }
    }

    private static void claimsOfNoTrain() {
        CHECK.sentence("claims throws IndexOutOfBoundsException if there is no such train");
        Cogwright x = Samples.withAllCutters();
        for (int trains = 0; trains <= 8; trains++) {
            for (int none : Edges.noneOf(trains)) {
                CHECK.outOfBounds("claims(" + none + ")", () -> x.claims(none));
            }
            if (trains < 8) {
                CHECK.same("none at first", 0, x.claims(Samples.train(x, 1, 8, 8)));
            }
        }
    }
}
