/** The edges that the document names for a new object and for cutters: promises 1 to 3. */
final class CutterEdgesTest {
    private static final Check CHECK = new Check("CutterEdgesTest");

    public static void main(String[] args) {
        aNewObject();
        eachObjectAlone();
        addCutterModule();
        addCutterLeastAndMost();
        mostIsNotBelowLeast();
        atMostTen();
        cuttersTeeth();
        cuttersModule();
        lowestNumber();
        cutterForRange();
        CHECK.end();
    }

    private static void aNewObject() {
        CHECK.sentence("Begins without cutters and trains, at the time 0.");
        Cogwright x = new Cogwright();
        for (int module = 1; module <= 4; module++) {
            for (int teeth = 8; teeth <= 60; teeth++) {
                CHECK.same("cutterFor", Cogwright.NONE, x.cutterFor(module, teeth));
            }
        }
        for (int train = 0; train < 8; train++) {
            int none = train;
            CHECK.outOfBounds("numerator", () -> x.numerator(none));
            CHECK.outOfBounds("denominator", () -> x.denominator(none));
            CHECK.outOfBounds("turned", () -> x.turned(none, 0));
            CHECK.outOfBounds("turnedByWalk", () -> x.turnedByWalk(none, 0));
            CHECK.outOfBounds("claims", () -> x.claims(none));
            CHECK.outOfBounds("order", () -> x.order(none));
        }
        CHECK.same("time", 0, x.time());
        CHECK.same("waiting", 0, x.waiting());
        CHECK.same("the first cutter", 0, x.addCutter(1, 8, 60));
        CHECK.same("the first train", 0, Samples.train(x, 1, 8, 8));
        CHECK.same("the first order", 0, x.order(0));
        CHECK.same("the first tick", 0, x.pass(1));
        CHECK.same("time", 1, x.time());
    }

    private static void eachObjectAlone() {
        CHECK.sentence("A new object begins without the cutters, trains and time of another.");
        String before = Scene.EMPTY.trace();
        Cogwright used = Samples.withAllCutters();
        used.order(Samples.train(used, 1, 8, 8));
        used.pass(200);
        used.stage(1, 8, 8);
        CHECK.holds("a later one is as the first", before.equals(Scene.EMPTY.trace()));
        Cogwright x = new Cogwright();
        CHECK.same("cutterFor", -1, x.cutterFor(1, 8));
        CHECK.same("scrap", 0, x.scrap());
        CHECK.same("time", 0, x.time());
        CHECK.same("waiting", 0, x.waiting());
        CHECK.same("cutterOn", -1, x.cutterOn(0));
        CHECK.outOfBounds("numerator", () -> x.numerator(0));
        CHECK.outOfBounds("gearsLeft", () -> x.gearsLeft(0));
    }

    private static void addCutterModule() {
        CHECK.sentence("module: 1 to 4");
        Cogwright x = new Cogwright();
        CHECK.same("module 1", 0, x.addCutter(1, 8, 60));
        CHECK.same("module 4", 1, x.addCutter(4, 8, 60));
        CHECK.illegalArgument("module 0", () -> x.addCutter(0, 8, 60));
        CHECK.illegalArgument("module 5", () -> x.addCutter(5, 8, 60));
        CHECK.same("those between", 2, x.addCutter(2, 8, 60));
        CHECK.same("those between", 3, x.addCutter(3, 8, 60));
    }

    private static void addCutterLeastAndMost() {
        CHECK.sentence("least: 8 to 60, most: least to 60");
        Cogwright x = new Cogwright();
        CHECK.same("8 to 8", 0, x.addCutter(1, 8, 8));
        CHECK.same("60 to 60", 1, x.addCutter(1, 60, 60));
        CHECK.same("8 to 60", 2, x.addCutter(2, 8, 60));
        CHECK.same("59 to 60", 3, x.addCutter(3, 59, 60));
        CHECK.illegalArgument("7 to 7", () -> x.addCutter(1, 7, 7));
        CHECK.illegalArgument("7 to 8", () -> x.addCutter(1, 7, 8));
        CHECK.illegalArgument("7 to 60", () -> x.addCutter(1, 7, 60));
        CHECK.illegalArgument("8 to 61", () -> x.addCutter(1, 8, 61));
        CHECK.illegalArgument("60 to 61", () -> x.addCutter(1, 60, 61));
        CHECK.illegalArgument("61 to 61", () -> x.addCutter(1, 61, 61));
        CHECK.illegalArgument("61 to 60", () -> x.addCutter(1, 61, 60));
        CHECK.same("none of these was added", 4, x.addCutter(4, 8, 8));
    }

    private static void mostIsNotBelowLeast() {
        CHECK.sentence("most: least to 60");
        for (int least = 8; least <= 60; least++) {
            Cogwright x = new Cogwright();
            int same = least;
            CHECK.illegalArgument(least + " to one less", () -> x.addCutter(2, same, same - 1));
            CHECK.same(least + " to the same", 0, x.addCutter(2, least, least));
            CHECK.same(least + " to 60", 1, x.addCutter(2, least, 60));
        }
    }

    private static void atMostTen() {
        CHECK.sentence("Cutters are numbered from 0, at most 10.");
        Cogwright x = new Cogwright();
        for (int number = 0; number < 10; number++) {
            CHECK.same("its number", number, x.addCutter(1 + number % 4, 8 + number, 8 + number));
        }
        for (int number = 0; number < 10; number++) {
            CHECK.same("it cuts", number, x.cutterFor(1 + number % 4, 8 + number));
        }
        CHECK.illegalState("the eleventh", () -> x.addCutter(4, 60, 60));
        CHECK.same("it is not there", -1, x.cutterFor(4, 60));
        CHECK.illegalArgument("an eleventh of module 5", () -> x.addCutter(5, 60, 60));
        CHECK.illegalArgument("an eleventh of 7 teeth", () -> x.addCutter(4, 7, 60));
        CHECK.illegalArgument("an eleventh of 61 teeth", () -> x.addCutter(4, 8, 61));
        CHECK.same("the tenth stayed", 9, x.cutterFor(2, 17));
        CHECK.same("the first stayed", 0, x.cutterFor(1, 8));
    }

    private static void cuttersTeeth() {
        CHECK.sentence("it cuts gears with as many teeth as these or any number between");
        for (int least = 8; least <= 60; least++) {
            for (int most = least; most <= 60; most++) {
                Cogwright x = new Cogwright();
                x.addCutter(3, least, most);
                String what = least + " to " + most + " for ";
                for (int teeth = Math.max(8, least - 1); teeth <= Math.min(60, most + 1); teeth++) {
                    boolean cuts = least <= teeth && teeth <= most;
                    CHECK.same(what + teeth, cuts ? 0 : -1, x.cutterFor(3, teeth));
                }
            }
        }
    }

    private static void cuttersModule() {
        CHECK.sentence("it cuts gears of this module");
        for (int module = 1; module <= 4; module++) {
            Cogwright x = new Cogwright();
            x.addCutter(module, 8, 60);
            for (int other = 1; other <= 4; other++) {
                CHECK.same("8 teeth", module == other ? 0 : -1, x.cutterFor(other, 8));
                CHECK.same("60 teeth", module == other ? 0 : -1, x.cutterFor(other, 60));
            }
        }
    }

    private static void lowestNumber() {
        CHECK.sentence("The cutter of a gear is the one with the lowest number that cuts it.");
        Cogwright x = new Cogwright();
        for (int number = 0; number < 10; number++) {
            x.addCutter(1, 26 - 2 * number, 26 + 2 * number);
        }
        for (int number = 0; number < 10; number++) {
            CHECK.same("the least of " + number, number, x.cutterFor(1, 26 - 2 * number));
            CHECK.same("the most of " + number, number, x.cutterFor(1, 26 + 2 * number));
        }
        CHECK.same("between the first two", 1, x.cutterFor(1, 27));
        CHECK.same("above all", -1, x.cutterFor(1, 45));
    }

    private static void cutterForRange() {
        CHECK.sentence("cutterFor: module 1 to 4, teeth 8 to 60; NONE if there is none");
        Cogwright x = new Cogwright();
        x.addCutter(1, 8, 8);
        x.addCutter(4, 60, 60);
        CHECK.same("the lowest", 0, x.cutterFor(1, 8));
        CHECK.same("the highest", 1, x.cutterFor(4, 60));
        CHECK.same("none", Cogwright.NONE, x.cutterFor(1, 60));
        CHECK.same("none", Cogwright.NONE, x.cutterFor(4, 8));
        CHECK.illegalArgument("module 0", () -> x.cutterFor(0, 8));
        CHECK.illegalArgument("module 5", () -> x.cutterFor(5, 60));
        CHECK.illegalArgument("7 teeth", () -> x.cutterFor(1, 7));
        CHECK.illegalArgument("61 teeth", () -> x.cutterFor(4, 61));
    }
}
