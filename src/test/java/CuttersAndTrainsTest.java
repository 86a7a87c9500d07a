/** Promises 1 to 10. */
final class CuttersAndTrainsTest {
    private static final Check CHECK = new Check("CuttersAndTrainsTest");

    public static void main(String[] args) {
        aNewObject();
        addCutter();
        addCutterRefuses();
        cutterFor();
        stage();
        stageRefuses();
        scrap();
        make();
        makeRefuses();
        makeRefusesTheNinth();
        ratio();
        turned();
        turnedRefuses();
        CHECK.end();
    }

    private static void aNewObject() {
        Cogwright x = new Cogwright();
        CHECK.same("new time", 0, x.time());
        CHECK.same("new waiting", 0, x.waiting());
        CHECK.same("new draft", 0, x.scrap());
        for (int module = 1; module <= 4; module++) {
            CHECK.same("new cutterFor 8", -1, x.cutterFor(module, 8));
            CHECK.same("new cutterFor 60", -1, x.cutterFor(module, 60));
        }
        for (int machine = 0; machine < 3; machine++) {
            CHECK.same("new cutterOn", -1, x.cutterOn(machine));
            CHECK.same("new ticksLeft", 0, x.ticksLeft(machine));
        }
        CHECK.outOfBounds("new numerator", () -> x.numerator(0));
        CHECK.outOfBounds("new gearsLeft", () -> x.gearsLeft(0));
        Cogwright other = Samples.withAllCutters();
        CHECK.same("one object's cutter", 0, other.cutterFor(1, 8));
        CHECK.same("is not another's", -1, x.cutterFor(1, 8));
    }

    private static void addCutter() {
        Cogwright x = new Cogwright();
        CHECK.same("first", 0, x.addCutter(1, 8, 8));
        CHECK.same("second", 1, x.addCutter(4, 60, 60));
        CHECK.same("third", 2, x.addCutter(2, 8, 60));
        CHECK.same("the like again", 3, x.addCutter(2, 8, 60));
        for (int number = 4; number < 10; number++) {
            CHECK.same("further", number, x.addCutter(3, 20, 30));
        }
        CHECK.illegalState("the eleventh", () -> x.addCutter(3, 20, 30));
        CHECK.illegalState("the eleventh again", () -> x.addCutter(1, 8, 60));
        CHECK.illegalArgument("argument ahead of state", () -> x.addCutter(5, 8, 60));
        CHECK.same("nothing was added", -1, x.cutterFor(1, 9));
    }

    private static void addCutterRefuses() {
        Cogwright x = new Cogwright();
        int[][] wrong = {
            {0, 8, 60}, {5, 8, 60}, {-1, 8, 60}, {1, 7, 60}, {1, 61, 61}, {1, 61, 60}, {1, 8, 61},
            {1, 8, 7}, {1, 20, 19}, {1, 0, 0}, {1, -8, 20}, {1, 8, -8},
            {Integer.MIN_VALUE, 8, 60}, {Integer.MAX_VALUE, 8, 60}, {1, Integer.MIN_VALUE, 60},
            {1, Integer.MAX_VALUE, 60}, {1, 8, Integer.MIN_VALUE}, {1, 8, Integer.MAX_VALUE},
        };
        for (int[] row : wrong) {
            CHECK.illegalArgument("addCutter(" + row[0] + ", " + row[1] + ", " + row[2] + ")",
                    () -> x.addCutter(row[0], row[1], row[2]));
        }
        CHECK.same("none was added", 0, x.addCutter(1, 8, 60));
    }

    private static void cutterFor() {
        Cogwright x = new Cogwright();
        x.addCutter(2, 20, 30);
        x.addCutter(1, 15, 40);
        x.addCutter(1, 8, 20);
        CHECK.same("below the least", -1, x.cutterFor(2, 19));
        CHECK.same("the least", 0, x.cutterFor(2, 20));
        CHECK.same("between", 0, x.cutterFor(2, 25));
        CHECK.same("the greatest", 0, x.cutterFor(2, 30));
        CHECK.same("above the greatest", -1, x.cutterFor(2, 31));
        CHECK.same("only the later", 2, x.cutterFor(1, 14));
        CHECK.same("the lowest number of two", 1, x.cutterFor(1, 15));
        CHECK.same("the lowest number of two", 1, x.cutterFor(1, 20));
        CHECK.same("another module", -1, x.cutterFor(3, 25));
        CHECK.illegalArgument("module 0", () -> x.cutterFor(0, 20));
        CHECK.illegalArgument("module 5", () -> x.cutterFor(5, 20));
        CHECK.illegalArgument("7 teeth", () -> x.cutterFor(1, 7));
        CHECK.illegalArgument("61 teeth", () -> x.cutterFor(1, 61));
        CHECK.illegalArgument("least int", () -> x.cutterFor(Integer.MIN_VALUE, Integer.MIN_VALUE));
        CHECK.illegalArgument("most int", () -> x.cutterFor(1, Integer.MAX_VALUE));
    }

    private static void stage() {
        Cogwright x = new Cogwright();
        CHECK.same("one stage", 16, x.stage(1, 8, 8));
        CHECK.same("two stages", 16 + 3 * 30, x.stage(3, 10, 20));
        CHECK.same("three stages", 16 + 90 + 4 * 120, x.stage(4, 60, 60));
        CHECK.same("four stages", 16 + 90 + 480 + 2 * 68, x.stage(2, 60, 8));
        CHECK.illegalState("five stages", () -> x.stage(1, 8, 8));
        CHECK.illegalArgument("argument ahead of state", () -> x.stage(1, 8, 61));
        CHECK.same("still four", 4, x.scrap());
        CHECK.same("from the start again", 16, x.stage(1, 8, 8));
    }

    private static void stageRefuses() {
        Cogwright x = new Cogwright();
        int[][] wrong = {
            {0, 8, 8}, {5, 8, 8}, {1, 7, 8}, {1, 61, 8}, {1, 8, 7}, {1, 8, 61}, {-1, 8, 8},
            {Integer.MIN_VALUE, 8, 8}, {1, Integer.MAX_VALUE, 8}, {1, 8, Integer.MIN_VALUE},
        };
        for (int[] row : wrong) {
            CHECK.illegalArgument("stage(" + row[0] + ", " + row[1] + ", " + row[2] + ")",
                    () -> x.stage(row[0], row[1], row[2]));
        }
        CHECK.same("none was added", 0, x.scrap());
    }

    private static void scrap() {
        Cogwright x = Samples.withAllCutters();
        x.stage(1, 8, 8);
        x.stage(1, 8, 9);
        x.make(33);
        CHECK.same("make empties the draft", 0, x.scrap());
        x.stage(1, 8, 8);
        x.stage(2, 8, 8);
        x.stage(3, 8, 8);
        CHECK.same("three forgotten", 3, x.scrap());
        CHECK.same("then none", 0, x.scrap());
        CHECK.illegalState("nothing to make", () -> x.make(96));
        CHECK.same("trains stay", 9, x.numerator(0));
    }

    private static void make() {
        Cogwright x = Samples.withAllCutters();
        x.stage(2, 10, 30);
        CHECK.same("first", 0, x.make(80));
        CHECK.same("the draft is empty then", 32, x.stage(2, 8, 8));
        x.stage(1, 10, 10);
        x.stage(1, 10, 10);
        x.stage(1, 10, 10);
        CHECK.same("second", 1, x.make(92));
        CHECK.same("the first is as it was", 3, x.numerator(0));
        CHECK.same("the first is as it was", 1, x.denominator(0));
    }

    private static void makeRefuses() {
        Cogwright x = new Cogwright();
        CHECK.illegalState("an empty draft", () -> x.make(0));
        x.addCutter(1, 20, 30);
        x.addCutter(2, 8, 9);
        x.stage(1, 20, 31);
        CHECK.illegalState("no cutter for a driven gear", () -> x.make(51));
        x.scrap();
        x.stage(1, 19, 20);
        CHECK.illegalState("no cutter for a driver", () -> x.make(39));
        x.scrap();
        x.stage(1, 20, 30);
        x.stage(3, 20, 30);
        CHECK.illegalState("no cutter in the last stage", () -> x.make(200));
        x.addCutter(3, 20, 30);
        for (int distance : new int[] {199, 201, 0, -200, Integer.MAX_VALUE, Integer.MIN_VALUE}) {
            CHECK.illegalState("another distance", () -> x.make(distance));
        }
        CHECK.outOfBounds("nothing was made", () -> x.claims(0));
        CHECK.same("the draft stayed, and now it closes", 0, x.make(200));
    }

    private static void makeRefusesTheNinth() {
        Cogwright x = Samples.withAllCutters();
        for (int train = 0; train < 8; train++) {
            x.stage(1, 8, 8 + train);
            CHECK.same("train " + train, train, x.make(16 + train));
        }
        CHECK.same("a draft is free", 16, x.stage(1, 8, 8));
        CHECK.illegalState("the ninth", () -> x.make(16));
        CHECK.same("the draft stayed", 1, x.scrap());
        CHECK.same("the last train", 15, x.numerator(7));
        CHECK.outOfBounds("a ninth", () -> x.numerator(8));
    }

    private static int train(Cogwright x, int... teeth) {
        int distance = 0;
        for (int i = 0; i + 1 < teeth.length; i += 2) {
            distance = x.stage(1, teeth[i], teeth[i + 1]);
        }
        return x.make(distance);
    }

    private static void ratio() {
        Cogwright x = Samples.withAllCutters();
        int[][] due = {
            {train(x, 10, 30), 3, 1}, {train(x, 30, 10), 1, 3}, {train(x, 12, 18), 3, 2},
            {train(x, 10, 30, 12, 18), 9, 2}, {train(x, 13, 17, 19, 23), 391, 247},
            {train(x, 8, 59, 8, 59, 8, 59, 8, 59), 12117361, 4096},
            {train(x, 59, 8, 59, 8, 59, 8, 59, 8), 4096, 12117361},
            {train(x, 14, 15, 15, 14), 1, 1},
        };
        for (int[] row : due) {
            CHECK.same("numerator of train " + row[0], row[1], x.numerator(row[0]));
            CHECK.same("denominator of train " + row[0], row[2], x.denominator(row[0]));
        }
        for (int train : new int[] {-1, 8, 9, Integer.MIN_VALUE, Integer.MAX_VALUE}) {
            CHECK.outOfBounds("numerator of train " + train, () -> x.numerator(train));
            CHECK.outOfBounds("denominator of train " + train, () -> x.denominator(train));
        }
    }

    private static void turnsAre(Cogwright x, int train, int turns, int due) {
        String what = "(" + train + ", " + turns + ")";
        CHECK.same("turned" + what, due, x.turned(train, turns));
        CHECK.same("turnedByWalk" + what, due, x.turnedByWalk(train, turns));
    }

    private static void turned() {
        Cogwright x = Samples.withAllCutters();
        int slow = train(x, 8, 60);
        turnsAre(x, slow, 0, 0);
        turnsAre(x, slow, 7, 0);
        turnsAre(x, slow, 8, 1);
        turnsAre(x, slow, 14, 1);
        turnsAre(x, slow, 15, 2);
        turnsAre(x, slow, 600000, 80000);
        int fast = train(x, 60, 8, 60, 8, 60, 8, 60, 8);
        turnsAre(x, fast, 1, 3164);
        turnsAre(x, fast, 600000, 1898437500);
        int mixed = train(x, 13, 17, 19, 23, 29, 31, 37, 41);
        turnsAre(x, mixed, 100000, 53330);
        // Rounding after each stage would lose a turn here.
        int there = train(x, 9, 10, 10, 9);
        turnsAre(x, there, 5, 5);
        int back = train(x, 8, 9, 9, 10, 10, 8);
        turnsAre(x, back, 1, 1);
        turnsAre(x, back, 599999, 599999);
    }

    private static void turnedRefuses() {
        Cogwright x = Samples.withAllCutters();
        int train = train(x, 8, 60);
        for (int turns : new int[] {-1, 600001, Integer.MIN_VALUE, Integer.MAX_VALUE}) {
            CHECK.illegalArgument("turned " + turns, () -> x.turned(train, turns));
            CHECK.illegalArgument("turnedByWalk " + turns, () -> x.turnedByWalk(train, turns));
        }
        for (int none : new int[] {-1, 1, Integer.MIN_VALUE, Integer.MAX_VALUE}) {
            CHECK.outOfBounds("turned of " + none, () -> x.turned(none, 1));
            CHECK.outOfBounds("turnedByWalk of " + none, () -> x.turnedByWalk(none, 1));
            CHECK.outOfBounds("bounds ahead of argument", () -> x.turned(none, -1));
            CHECK.outOfBounds("bounds ahead of argument", () -> x.turnedByWalk(none, 600001));
        }
    }
}
