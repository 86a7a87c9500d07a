/** The edges that the document names for drafts, trains and their ratios: promises 4 to 10. */
final class TrainEdgesTest {
    private static final Check CHECK = new Check("TrainEdgesTest");

    public static void main(String[] args) {
        draftIsEmptyAtFirst();
        stageRanges();
        stageDistance();
        fourStages();
        fourStagesAgain();
        scrap();
        scrapAfterRefusals();
        makeOfEmptyDraft();
        makeOfAnotherDistance();
        makeWithoutCutter();
        makeWithLaterCutter();
        makeEmptiesTheDraft();
        oneToFourStages();
        atMostEightTrains();
        lowestTerms();
        greatestTerms();
        ratioOfNoTrain();
        turnsRange();
        turnsRoundedDown();
        turnsAtTheMost();
        turnsOfNoTrain();
        CHECK.end();
    }

    private static void draftIsEmptyAtFirst() {
        CHECK.sentence("the draft of a train, which is empty at first");
        CHECK.same("scrap", 0, new Cogwright().scrap());
        Cogwright x = new Cogwright();
        CHECK.illegalState("make", () -> x.make(0));
        CHECK.same("the first stage alone", 16, x.stage(1, 8, 8));
        CHECK.same("then one", 1, x.scrap());
    }

    private static void stageRanges() {
        CHECK.sentence("module: 1 to 4, driver and driven: 8 to 60 teeth");
        for (int module = 1; module <= 4; module++) {
            for (int driver : Edges.inside(8, 60)) {
                for (int driven : Edges.inside(8, 60)) {
                    CHECK.same("one stage", module * (driver + driven),
                            new Cogwright().stage(module, driver, driven));
                }
            }
        }
        Cogwright x = new Cogwright();
        CHECK.illegalArgument("module 0", () -> x.stage(0, 8, 8));
        CHECK.illegalArgument("module 5", () -> x.stage(5, 8, 8));
        for (int teeth : new int[] {7, 61}) {
            CHECK.illegalArgument("driver", () -> x.stage(1, teeth, 8));
            CHECK.illegalArgument("driven", () -> x.stage(1, 8, teeth));
        }
        CHECK.same("the draft is empty", 0, x.scrap());
    }

    private static void stageDistance() {
        CHECK.sentence("The distance of a stage is its module times the teeth of both gears,"
                + " together; that of a train the sum of those of its stages.");
        Cogwright least = new Cogwright();
        Cogwright most = new Cogwright();
        for (int stages = 1; stages <= 4; stages++) {
            CHECK.same("the least", 16 * stages, least.stage(1, 8, 8));
            CHECK.same("the most", 480 * stages, most.stage(4, 60, 60));
        }
        Cogwright x = new Cogwright();
        CHECK.same("driver alone", 2 * 68, x.stage(2, 60, 8));
        CHECK.same("driven alone", 2 * 68 + 3 * 67, x.stage(3, 8, 59));
    }

    private static void fourStages() {
        CHECK.sentence("stage throws IllegalStateException if the draft has 4 stages");
        Cogwright x = Samples.withAllCutters();
        for (int stages = 1; stages <= 4; stages++) {
            CHECK.same("stage " + stages, 17 * stages, x.stage(1, 8, 9));
        }
        CHECK.illegalState("the fifth", () -> x.stage(1, 8, 9));
        CHECK.illegalState("the fifth once more", () -> x.stage(4, 60, 60));
        CHECK.illegalArgument("a fifth of module 0", () -> x.stage(0, 8, 9));
        CHECK.illegalArgument("a fifth with 61 teeth", () -> x.stage(1, 61, 9));
        CHECK.same("four make a train", 0, x.make(68));
        CHECK.same("of four stages", 6561, x.numerator(0));
        CHECK.same("of four stages", 4096, x.denominator(0));
    }

    private static void fourStagesAgain() {
        CHECK.sentence("Adds a stage to the draft, which is empty after scrap and after make");
        Cogwright x = Samples.withAllCutters();
        for (int round = 0; round < 3; round++) {
            for (int stages = 1; stages <= 4; stages++) {
                CHECK.same("stage " + stages, 16 * stages, x.stage(1, 8, 8));
            }
            CHECK.illegalState("the fifth", () -> x.stage(1, 8, 8));
            if (round == 0) {
                CHECK.same("scrap", 4, x.scrap());
            } else {
                CHECK.same("make", round - 1, x.make(64));
            }
        }
    }

    private static void scrap() {
        CHECK.sentence("scrap forgets the draft; returns how many stages it had.");
        Cogwright x = Samples.withAllCutters();
        for (int stages = 0; stages <= 4; stages++) {
            for (int i = 0; i < stages; i++) {
                x.stage(2, 8, 60);
            }
            CHECK.same("as many", stages, x.scrap());
            CHECK.same("then none", 0, x.scrap());
            CHECK.illegalState("nothing to make", () -> x.make(0));
        }
        CHECK.same("a new train has its own stages alone", 0, Samples.train(x, 1, 10, 20));
        CHECK.same("its ratio", 2, x.numerator(0));
        CHECK.same("its ratio", 1, x.denominator(0));
        CHECK.same("and scrap leaves it", 0, x.scrap());
        CHECK.same("its ratio", 2, x.numerator(0));
    }

    private static void scrapAfterRefusals() {
        CHECK.sentence("a call that throws changes nothing, the draft neither");
        Cogwright x = new Cogwright();
        x.stage(1, 8, 8);
        CHECK.illegalState("no cutter", () -> x.make(16));
        CHECK.illegalState("another distance", () -> x.make(17));
        CHECK.illegalArgument("7 teeth", () -> x.stage(1, 7, 8));
        CHECK.same("the distance goes on", 32, x.stage(1, 8, 8));
        CHECK.same("two stages", 2, x.scrap());
    }

    private static void makeOfEmptyDraft() {
        CHECK.sentence("make throws IllegalStateException if the draft is empty");
        Cogwright x = Samples.withAllCutters();
        for (int distance : new int[] {0, 16, -1, Integer.MIN_VALUE, Integer.MAX_VALUE}) {
            CHECK.illegalState("a new one", () -> x.make(distance));
        }
        x.stage(1, 8, 8);
        x.scrap();
        CHECK.illegalState("scrapped", () -> x.make(0));
        CHECK.illegalState("scrapped", () -> x.make(16));
        Samples.train(x, 1, 8, 8);
        CHECK.illegalState("made", () -> x.make(0));
        CHECK.illegalState("made", () -> x.make(16));
        CHECK.outOfBounds("no second train", () -> x.numerator(1));
    }

    private static void makeOfAnotherDistance() {
        CHECK.sentence("make throws IllegalStateException if its distance is another one");
        int[][] drafts = {{1, 8, 8}, {4, 60, 60}, {3, 17, 40}};
        for (int[] draft : drafts) {
            Cogwright x = Samples.withAllCutters();
            int due = x.stage(draft[0], draft[1], draft[2]);
            int[] others = {
                due - 1, due + 1, 0, -due, -1, due + 256, due + 65536, 2 * due,
                Integer.MIN_VALUE + due, Integer.MIN_VALUE, Integer.MAX_VALUE,
            };
            for (int other : others) {
                CHECK.illegalState("make(" + other + ") for " + due, () -> x.make(other));
            }
            CHECK.same("the distance itself", 0, x.make(due));
        }
    }

    private static void makeWithoutCutter() {
        CHECK.sentence("make throws IllegalStateException if a gear of it has no cutter");
        int[] gears = new int[8];
        for (int place = 0; place < 8; place++) {
            for (int teeth : new int[] {9, 10, 20, 21}) {
                java.util.Arrays.fill(gears, 15);
                gears[place] = teeth;
                Cogwright x = new Cogwright();
                x.addCutter(2, 10, 20);
                int distance = 0;
                for (int i = 0; i < 8; i += 2) {
                    distance = x.stage(2, gears[i], gears[i + 1]);
                }
                int due = distance;
                if (teeth == 10 || teeth == 20) {
                    CHECK.same("gear " + place + " of " + teeth, 0, x.make(due));
                } else {
                    CHECK.illegalState("gear " + place + " of " + teeth, () -> x.make(due));
                    CHECK.same("the draft stayed", 4, x.scrap());
                }
            }
        }
        Cogwright x = new Cogwright();
        x.addCutter(2, 8, 60);
        x.stage(1, 10, 10);
        CHECK.illegalState("only another module has one", () -> x.make(20));
    }

    private static void makeWithLaterCutter() {
        CHECK.sentence("a gear of it has no cutter: the cutters that there are when it is made");
        Cogwright x = new Cogwright();
        x.stage(4, 60, 8);
        CHECK.illegalState("no cutters", () -> x.make(272));
        x.addCutter(4, 8, 59);
        CHECK.illegalState("no cutter for the driver", () -> x.make(272));
        x.addCutter(4, 60, 60);
        CHECK.same("a cutter for each", 0, x.make(272));
    }

    private static void makeEmptiesTheDraft() {
        CHECK.sentence("Makes the draft a train, and empties it. Returns its number.");
        Cogwright x = Samples.withAllCutters();
        for (int train = 0; train < 8; train++) {
            CHECK.same("the first stage", 18 + train, x.stage(1, 8, 10 + train));
            CHECK.same("the number", train, x.make(18 + train));
            CHECK.same("the draft", 0, x.scrap());
        }
        CHECK.same("the first is as it was", 5, x.numerator(0));
        CHECK.same("the first is as it was", 4, x.denominator(0));
        CHECK.same("the last", 17, x.numerator(7));
        CHECK.same("the last", 8, x.denominator(7));
    }

    private static void oneToFourStages() {
        CHECK.sentence("A train has 1 to 4 stages");
        Cogwright x = Samples.withAllCutters();
        int power = 1;
        for (int stages = 1; stages <= 4; stages++) {
            power *= 3;
            for (int i = 0; i < stages; i++) {
                x.stage(1, 10, 30);
            }
            CHECK.same("made", stages - 1, x.make(40 * stages));
            CHECK.same("its ratio", power, x.numerator(stages - 1));
            CHECK.same("its order's gears", 2 * stages, x.gearsLeft(x.order(stages - 1)));
            int last = stages - 1;
            CHECK.same("its last stage", 0, x.wear(last, last));
            CHECK.outOfBounds("no more stages", () -> x.wear(last, last + 1));
        }
    }

    private static void atMostEightTrains() {
        CHECK.sentence("Trains are numbered from 0, at most 8.");
        Cogwright x = Samples.withAllCutters();
        for (int train = 0; train < 8; train++) {
            int next = train;
            CHECK.outOfBounds("not yet", () -> x.numerator(next));
            CHECK.same("made", train, Samples.train(x, 1, 8, 9 + train));
            CHECK.same("and there", 0, x.claims(train));
        }
        x.stage(1, 8, 8);
        CHECK.illegalState("the ninth", () -> x.make(16));
        CHECK.outOfBounds("it is not there", () -> x.numerator(8));
        CHECK.same("its draft is", 1, x.scrap());
        CHECK.illegalState("an empty ninth", () -> x.make(0));
        CHECK.same("the eighth", 2, x.numerator(7));
    }

    private static void ratioIs(Cogwright x, int train, int above, int below) {
        CHECK.same("numerator", above, x.numerator(train));
        CHECK.same("denominator", below, x.denominator(train));
    }

    private static void lowestTerms() {
        CHECK.sentence("Its ratio is the product, over its stages, of the driven teeth divided by"
                + " the driver's teeth, in lowest terms.");
        Cogwright x = Samples.withAllCutters();
        ratioIs(x, Samples.train(x, 1, 8, 60), 15, 2);
        ratioIs(x, Samples.train(x, 1, 60, 8), 2, 15);
        ratioIs(x, Samples.train(x, 1, 60, 60), 1, 1);
        ratioIs(x, Samples.train(x, 4, 59, 60), 60, 59);
        ratioIs(x, Samples.train(x, 1, 8, 15, 2, 15, 8), 1, 1);
        ratioIs(x, Samples.train(x, 1, 9, 10, 2, 10, 11, 3, 11, 12, 4, 12, 13), 13, 9);
        ratioIs(x, Samples.train(x, 1, 8, 16, 1, 8, 24, 1, 8, 40, 1, 8, 56), 210, 1);
        ratioIs(x, Samples.train(x, 1, 16, 8, 1, 24, 8, 1, 40, 8, 1, 56, 8), 1, 210);
    }

    private static void greatestTerms() {
        CHECK.sentence("Its ratio, in lowest terms: the greatest that there are");
        Cogwright x = Samples.withAllCutters();
        ratioIs(x, Samples.train(x, 1, 8, 60, 1, 8, 60, 1, 8, 60, 1, 8, 60), 50625, 16);
        ratioIs(x, Samples.train(x, 1, 60, 8, 1, 60, 8, 1, 60, 8, 1, 60, 8), 16, 50625);
        ratioIs(x, Samples.train(x, 1, 59, 60, 1, 59, 60, 1, 59, 60, 1, 59, 60),
                12960000, 12117361);
        ratioIs(x, Samples.train(x, 1, 60, 59, 1, 60, 59, 1, 60, 59, 1, 60, 59),
                12117361, 12960000);
    }

    private static void ratioOfNoTrain() {
        CHECK.sentence("IndexOutOfBoundsException is thrown if there is no such train.");
        Cogwright x = Samples.withAllCutters();
        for (int trains = 0; trains <= 8; trains++) {
            for (int none : Edges.noneOf(trains)) {
                CHECK.outOfBounds("numerator " + none, () -> x.numerator(none));
                CHECK.outOfBounds("denominator " + none, () -> x.denominator(none));
            }
            if (trains < 8) {
                ratioIs(x, Samples.train(x, 1, 13, 14 + trains), 14 + trains, 13);
            }
        }
    }

    private static void turnsAre(Cogwright x, int train, int turns, int due) {
        String what = "(" + train + ", " + turns + ")";
        CHECK.same("turned" + what, due, x.turned(train, turns));
        CHECK.same("turnedByWalk" + what, due, x.turnedByWalk(train, turns));
    }

    private static void turnsRange() {
        CHECK.sentence("turns: 0 to 600000");
        Cogwright x = Samples.withAllCutters();
        int same = Samples.train(x, 1, 9, 9);
        for (int turns : Edges.inside(0, 600000)) {
            turnsAre(x, same, turns, turns);
        }
        for (int turns : Edges.outside(0, 600000)) {
            CHECK.illegalArgument("turned " + turns, () -> x.turned(same, turns));
            CHECK.illegalArgument("turnedByWalk " + turns, () -> x.turnedByWalk(same, turns));
        }
    }

    private static void turnsRoundedDown() {
        CHECK.sentence("Returns the turns, rounded down.");
        Cogwright x = Samples.withAllCutters();
        int slow = Samples.train(x, 1, 8, 60);
        int[] due = {0, 0, 0, 0, 0, 0, 0, 0, 1, 1, 1, 1, 1, 1, 1, 2, 2};
        for (int turns = 0; turns < due.length; turns++) {
            turnsAre(x, slow, turns, due[turns]);
        }
        turnsAre(x, slow, 599999, 79999);
        turnsAre(x, slow, 600000, 80000);
        int fast = Samples.train(x, 1, 60, 8);
        turnsAre(x, fast, 0, 0);
        turnsAre(x, fast, 1, 7);
        turnsAre(x, fast, 2, 15);
        // A stage rounded by itself would lose turns in these.
        int there = Samples.train(x, 1, 8, 9, 1, 9, 8);
        int round = Samples.train(x, 1, 8, 59, 2, 59, 53, 3, 53, 47, 4, 47, 8);
        for (int turns : new int[] {0, 1, 2, 7, 8, 599999, 600000}) {
            turnsAre(x, there, turns, turns);
            turnsAre(x, round, turns, turns);
        }
        int primes = Samples.train(x, 1, 53, 59, 1, 43, 47, 1, 37, 41, 1, 29, 31);
        turnsAre(x, primes, 1, 0);
        turnsAre(x, primes, 2, 1);
        turnsAre(x, primes, 600000, 416293);
    }

    private static void turnsAtTheMost() {
        CHECK.sentence("turned, turnedByWalk: the most turns of the fastest and slowest trains");
        Cogwright x = Samples.withAllCutters();
        int fast = Samples.train(x, 1, 60, 8, 1, 60, 8, 1, 60, 8, 1, 60, 8);
        turnsAre(x, fast, 1, 3164);
        turnsAre(x, fast, 599999, 1898434335);
        turnsAre(x, fast, 600000, 1898437500);
        int prime = Samples.train(x, 1, 59, 8, 1, 59, 8, 1, 59, 8, 1, 59, 8);
        turnsAre(x, prime, 599999, 1775001094);
        turnsAre(x, prime, 600000, 1775004052);
        int slow = Samples.train(x, 1, 8, 59, 1, 8, 59, 1, 8, 59, 1, 8, 59);
        turnsAre(x, slow, 2958, 0);
        turnsAre(x, slow, 2959, 1);
        turnsAre(x, slow, 600000, 202);
        int first = Samples.train(x, 1, 59, 53, 1, 47, 43, 1, 41, 37, 1, 31, 29);
        turnsAre(x, first, 599999, 864772);
        turnsAre(x, first, 600000, 864773);
    }

    private static void turnsOfNoTrain() {
        CHECK.sentence("turned names IndexOutOfBoundsException ahead of IllegalArgumentException");
        Cogwright x = Samples.withAllCutters();
        for (int trains = 0; trains <= 8; trains++) {
            for (int none : new int[] {-1, trains, trains + 1, Integer.MIN_VALUE}) {
                for (int turns : new int[] {0, 600001}) {
                    CHECK.outOfBounds("turned", () -> x.turned(none, turns));
                    CHECK.outOfBounds("turnedByWalk", () -> x.turnedByWalk(none, turns));
                }
            }
            if (trains < 8) {
                turnsAre(x, Samples.train(x, 1, 20, 10 + trains), 1, 20 / (10 + trains));
            }
        }
    }
}
