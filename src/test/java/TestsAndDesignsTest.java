/** Promises 19 to 22. */
final class TestsAndDesignsTest {
    private static final Check CHECK = new Check("TestsAndDesignsTest");

    public static void main(String[] args) {
        wearUpToTheLimit();
        wearRoundsDown();
        eachStageWears();
        oneClaimAnOrder();
        testRefuses();
        wearOutOfBounds();
        claimsOutOfBounds();
        leastNewWithoutCutters();
        leastNewWithCutters();
        leastNewRefuses();
        CHECK.end();
    }

    private static int cut(Cogwright x, int train) {
        int order = x.order(train);
        x.pass(200);
        x.pass(200);
        return order;
    }

    private static void tested(Cogwright x, int order, int load, int hours, boolean due) {
        boolean broken = x.test(order, load, hours);
        CHECK.same("test(" + order + ", " + load + ", " + hours + ")", due ? 1 : 0, broken ? 1 : 0);
    }

    private static void wearUpToTheLimit() {
        Cogwright x = Samples.withAllCutters();
        int small = Samples.train(x, 1, 8, 60);
        int drivenSmall = Samples.train(x, 1, 60, 9);
        int first = cut(x, small);
        CHECK.same("no wear at first", 0, x.wear(first, 0));
        tested(x, first, 80, 1, false);
        CHECK.same("just ten times the teeth", 80, x.wear(first, 0));
        CHECK.same("no claim", 0, x.claims(small));
        tested(x, first, 1, 1, true);
        CHECK.same("one more", 81, x.wear(first, 0));
        CHECK.same("a claim", 1, x.claims(small));
        int second = cut(x, drivenSmall);
        tested(x, second, 9, 10, false);
        tested(x, second, 1, 1, true);
        CHECK.same("a claim for each train", 1, x.claims(small));
        CHECK.same("a claim for each train", 1, x.claims(drivenSmall));
        int third = cut(x, small);
        tested(x, third, 100, 100, true);
        CHECK.same("the most at once", 10000, x.wear(third, 0));
        CHECK.same("a second claim", 2, x.claims(small));
    }

    private static void wearRoundsDown() {
        Cogwright x = Samples.withAllCutters();
        int order = cut(x, Samples.train(x, 4, 8, 8, 3, 8, 8));
        tested(x, order, 1, 3, false);
        tested(x, order, 3, 1, false);
        CHECK.same("each test is rounded down", 0, x.wear(order, 0));
        CHECK.same("three by three is one", 2, x.wear(order, 1));
        tested(x, order, 7, 5, false);
        CHECK.same("35 by 4", 8, x.wear(order, 0));
        CHECK.same("35 by 3 more", 13, x.wear(order, 1));
    }

    private static void eachStageWears() {
        Cogwright x = Samples.withAllCutters();
        int train = Samples.train(x, 1, 60, 60, 2, 10, 20, 3, 30, 12, 4, 60, 8);
        int one = cut(x, train);
        int other = cut(x, train);
        tested(x, one, 20, 10, false);
        int[] once = {200, 100, 66, 50};
        for (int stage = 0; stage < 4; stage++) {
            CHECK.same("wear of stage " + stage, once[stage], x.wear(one, stage));
            CHECK.same("the other order wears alone", 0, x.wear(other, stage));
        }
        tested(x, one, 1, 2, true);
        int[] then = {202, 101, 66, 50};
        for (int stage = 0; stage < 4; stage++) {
            CHECK.same("stages ahead and behind wear too", then[stage], x.wear(one, stage));
        }
        CHECK.illegalState("a broken order", () -> x.test(one, 1, 1) ? 1 : 0);
        CHECK.same("wears no more", 202, x.wear(one, 0));
        tested(x, other, 20, 10, false);
        CHECK.same("the other is whole", 1, x.claims(train));
    }

    private static void oneClaimAnOrder() {
        Cogwright x = Samples.withAllCutters();
        int train = Samples.train(x, 1, 8, 8, 1, 8, 8, 2, 8, 8);
        int one = cut(x, train);
        int other = cut(x, train);
        CHECK.same("no claims", 0, x.claims(train));
        tested(x, one, 100, 100, true);
        CHECK.same("all stages broken, one claim", 1, x.claims(train));
        CHECK.illegalState("a broken order", () -> x.test(one, 1, 1) ? 1 : 0);
        CHECK.same("no claim for that", 1, x.claims(train));
        tested(x, other, 100, 1, true);
        CHECK.same("one more", 2, x.claims(train));
        CHECK.same("the whole stage too", 50, x.wear(other, 2));
    }

    private static void testRefuses() {
        Cogwright x = Samples.withAllCutters();
        CHECK.outOfBounds("no order", () -> x.test(0, 1, 1) ? 1 : 0);
        CHECK.outOfBounds("bounds ahead of argument", () -> x.test(0, 0, 0) ? 1 : 0);
        int order = x.order(Samples.train(x, 1, 60, 60));
        int[] wrong = {0, -1, 101, Integer.MIN_VALUE, Integer.MAX_VALUE};
        for (int value : wrong) {
            CHECK.illegalArgument("argument ahead of state, load",
                    () -> x.test(order, value, 1) ? 1 : 0);
            CHECK.illegalArgument("argument ahead of state, hours",
                    () -> x.test(order, 1, value) ? 1 : 0);
            CHECK.outOfBounds("order", () -> x.test(value == 0 ? 1 : value, 1, 1) ? 1 : 0);
        }
        CHECK.illegalState("not begun", () -> x.test(order, 1, 1) ? 1 : 0);
        x.pass(63);
        CHECK.illegalState("half of it cut", () -> x.test(order, 1, 1) ? 1 : 0);
        x.pass(59);
        CHECK.illegalState("a tick ahead", () -> x.test(order, 1, 1) ? 1 : 0);
        CHECK.same("no wear by that", 0, x.wear(order, 0));
        x.pass(1);
        tested(x, order, 1, 100, false);
        tested(x, order, 100, 1, false);
        CHECK.same("wear", 200, x.wear(order, 0));
        CHECK.illegalArgument("load 101", () -> x.test(order, 101, 100) ? 1 : 0);
        CHECK.same("no wear by that", 200, x.wear(order, 0));
    }

    private static void wearOutOfBounds() {
        Cogwright x = Samples.withAllCutters();
        CHECK.outOfBounds("no order", () -> x.wear(0, 0));
        x.order(Samples.train(x, 1, 8, 8));
        x.order(Samples.train(x, 1, 8, 8, 1, 8, 8, 1, 8, 8, 1, 8, 8));
        CHECK.same("waits, no wear", 0, x.wear(0, 0));
        CHECK.same("the last of four", 0, x.wear(1, 3));
        for (int none : new int[] {-1, 4, Integer.MIN_VALUE, Integer.MAX_VALUE}) {
            CHECK.outOfBounds("stage " + none, () -> x.wear(1, none));
            CHECK.outOfBounds("order " + none, () -> x.wear(none, 0));
        }
        CHECK.outOfBounds("the second of one", () -> x.wear(0, 1));
        CHECK.outOfBounds("the third order", () -> x.wear(2, 0));
    }

    private static void claimsOutOfBounds() {
        Cogwright x = Samples.withAllCutters();
        CHECK.outOfBounds("no train", () -> x.claims(0));
        CHECK.same("none without orders", 0, x.claims(Samples.train(x, 1, 8, 8)));
        for (int none : new int[] {-1, 1, Integer.MIN_VALUE, Integer.MAX_VALUE}) {
            CHECK.outOfBounds("claims(" + none + ")", () -> x.claims(none));
        }
    }

    private static void leastNewIs(Cogwright x, int module, int above, int below, int due) {
        CHECK.same("leastNew(" + module + ", " + above + ", " + below + ")",
                due, x.leastNew(module, above, below));
    }

    private static void leastNewWithoutCutters() {
        Cogwright x = new Cogwright();
        leastNewIs(x, 1, 1, 1, 1);
        leastNewIs(x, 4, 400, 400, 1);
        leastNewIs(x, 2, 25, 4, 2);
        leastNewIs(x, 2, 4, 25, 2);
        leastNewIs(x, 2, 400, 64, 2);
        leastNewIs(x, 2, 64, 400, 2);
        leastNewIs(x, 3, 361, 400, 2);
        leastNewIs(x, 3, 13, 17, 2);
        leastNewIs(x, 1, 3, 1, 3);
        leastNewIs(x, 1, 143, 289, 3);
        leastNewIs(x, 1, 143, 323, 4);
        leastNewIs(x, 1, 323, 143, 4);
        leastNewIs(x, 1, 26, 4, -1);
        leastNewIs(x, 1, 4, 26, -1);
        leastNewIs(x, 1, 399, 400, -1);
        leastNewIs(x, 1, 400, 1, -1);
        leastNewIs(x, 1, 1, 400, -1);
        leastNewIs(x, 1, 23, 20, -1);
    }

    private static void leastNewWithCutters() {
        Cogwright x = new Cogwright();
        x.addCutter(1, 13, 17);
        leastNewIs(x, 1, 1, 1, 0);
        leastNewIs(x, 2, 1, 1, 1);
        leastNewIs(x, 1, 13, 17, 0);
        leastNewIs(x, 1, 143, 289, 1);
        leastNewIs(x, 1, 143, 323, 2);
        leastNewIs(x, 2, 143, 323, 4);
        leastNewIs(x, 1, 25, 4, 2);
        x.addCutter(1, 20, 20);
        leastNewIs(x, 1, 25, 4, 1);
        x.addCutter(1, 8, 8);
        leastNewIs(x, 1, 25, 4, 0);
        leastNewIs(x, 1, 400, 1, -1);
        x.addCutter(3, 21, 60);
        leastNewIs(x, 3, 3, 1, 3);
        leastNewIs(x, 3, 1, 1, 1);
    }

    private static void leastNewRefuses() {
        Cogwright x = Samples.withAllCutters();
        int[] wrong = {0, -1, 401, Integer.MIN_VALUE, Integer.MAX_VALUE};
        for (int value : wrong) {
            CHECK.illegalArgument("module", () -> x.leastNew(value == 401 ? 5 : value, 1, 1));
            CHECK.illegalArgument("above", () -> x.leastNew(1, value, 1));
            CHECK.illegalArgument("below", () -> x.leastNew(1, 1, value));
        }
    }
}
