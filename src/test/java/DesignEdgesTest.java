import java.util.HashMap;
import java.util.Map;
import java.util.TreeSet;

/** The edges that the document names for designs: promise 22. */
final class DesignEdgesTest {
    private static final Check CHECK = new Check("DesignEdgesTest");
    private static final int[] TERMS = {1, 2, 4, 25, 64, 81, 143, 144, 289, 323, 361, 399, 400};

    public static void main(String[] args) {
        ranges();
        noneToFour();
        noSuchTrain();
        teethOfEachGear();
        justTheRatio();
        sameTeethAreOne();
        cuttersAtTheEdges();
        cuttersOfTheModule();
        changesNothing();
        eachRatio();
        CHECK.end();
    }

    private static void leastNewIs(Cogwright x, int module, int above, int below, int due) {
        CHECK.same("leastNew(" + module + ", " + above + ", " + below + ")",
                due, x.leastNew(module, above, below));
    }

    private static void ranges() {
        CHECK.sentence("module: 1 to 4, above: 1 to 400, below: 1 to 400");
        Cogwright x = new Cogwright();
        for (int module = 1; module <= 4; module++) {
            leastNewIs(x, module, 1, 1, 1);
            leastNewIs(x, module, 400, 400, 1);
            leastNewIs(x, module, 400, 64, 2);
            leastNewIs(x, module, 64, 400, 2);
            leastNewIs(x, module, 1, 400, -1);
            leastNewIs(x, module, 400, 1, -1);
        }
        for (int module : Edges.outside(1, 4)) {
            CHECK.illegalArgument("module " + module, () -> x.leastNew(module, 1, 1));
        }
        for (int term : Edges.outside(1, 400)) {
            CHECK.illegalArgument("above " + term, () -> x.leastNew(1, term, 1));
            CHECK.illegalArgument("below " + term, () -> x.leastNew(1, 1, term));
            CHECK.illegalArgument("both " + term, () -> x.leastNew(4, term, term));
        }
        CHECK.illegalArgument("all three", () -> x.leastNew(0, 401, 0));
    }

    private static void noneToFour() {
        CHECK.sentence("Returns 0 to 4; NONE if there is no such train.");
        Cogwright x = new Cogwright();
        leastNewIs(x, 2, 1, 1, 1);
        leastNewIs(x, 2, 8, 9, 2);
        leastNewIs(x, 2, 16, 27, 3);
        leastNewIs(x, 2, 323, 143, 4);
        leastNewIs(x, 2, 399, 400, Cogwright.NONE);
        x.addCutter(2, 8, 20);
        leastNewIs(x, 2, 1, 1, 0);
        leastNewIs(x, 2, 8, 9, 0);
        leastNewIs(x, 2, 16, 27, 0);
        leastNewIs(x, 2, 323, 143, 0);
        leastNewIs(x, 2, 399, 400, Cogwright.NONE);
    }

    private static void noSuchTrain() {
        CHECK.sentence("NONE if there is no such train: the ratios next to the greatest and the"
                + " least");
        Cogwright x = new Cogwright();
        leastNewIs(x, 1, 25, 4, 2);
        leastNewIs(x, 1, 4, 25, 2);
        leastNewIs(x, 1, 95, 16, 3);
        leastNewIs(x, 1, 16, 95, 3);
        int[][] none = {
            {26, 4}, {26, 3}, {251, 40}, {376, 60}, {249, 40}, {23, 20}, {23, 1}, {397, 64},
            {399, 64}, {400, 63}, {7, 1}, {59, 60},
        };
        for (int[] terms : none) {
            leastNewIs(x, 1, terms[0], terms[1], -1);
            leastNewIs(x, 1, terms[1], terms[0], -1);
        }
    }

    private static void teethOfEachGear() {
        CHECK.sentence("8 to 20 teeth for each gear, with a cutter or without");
        Cogwright x = Samples.withAllCutters();
        leastNewIs(x, 1, 400, 64, 0);
        leastNewIs(x, 1, 64, 400, 0);
        // These would need a gear of 7 or of 21 teeth.
        leastNewIs(x, 1, 50, 7, -1);
        leastNewIs(x, 1, 7, 50, -1);
        leastNewIs(x, 1, 95, 14, -1);
        leastNewIs(x, 1, 105, 16, -1);
        leastNewIs(x, 1, 16, 105, -1);
        leastNewIs(x, 1, 399, 64, -1);
    }

    private static void justTheRatio() {
        CHECK.sentence("just a ratio: above the driven teeth by below the driver's, in any terms");
        Cogwright x = new Cogwright();
        x.addCutter(1, 8, 8);
        x.addCutter(2, 20, 20);
        for (int times = 1; times <= 16; times++) {
            leastNewIs(x, 1, 25 * times, 4 * times, 1);
            leastNewIs(x, 2, 4 * times, 25 * times, 1);
            leastNewIs(x, 3, 4 * times, 25 * times, 2);
            leastNewIs(x, 3, 25 * times, 24 * times, 3);
        }
        for (int term = 1; term <= 400; term += 21) {
            leastNewIs(x, 3, term, term, 1);
        }
    }

    private static void sameTeethAreOne() {
        CHECK.sentence("unlike gears without a cutter; gears with the same teeth are one");
        Cogwright x = new Cogwright();
        // 11 and 13 by 17 and 17; 9 by 8 twice; 20 by 10 and the other way round.
        leastNewIs(x, 1, 143, 289, 3);
        leastNewIs(x, 1, 81, 64, 2);
        leastNewIs(x, 1, 2, 1, 2);
        leastNewIs(x, 1, 1, 1, 1);
        x.addCutter(1, 17, 17);
        leastNewIs(x, 1, 143, 289, 2);
        leastNewIs(x, 1, 17, 19, 1);
        x.addCutter(1, 11, 11);
        leastNewIs(x, 1, 143, 289, 1);
        x.addCutter(1, 13, 13);
        leastNewIs(x, 1, 143, 289, 0);
        leastNewIs(x, 1, 143, 323, 1);
        leastNewIs(x, 1, 1, 1, 0);
    }

    private static void cuttersAtTheEdges() {
        CHECK.sentence("without a cutter: a cutter counts from its least to its greatest teeth");
        for (int teeth = 8; teeth <= 20; teeth++) {
            Cogwright x = new Cogwright();
            x.addCutter(3, teeth, teeth);
            leastNewIs(x, 3, 1, 1, 0);
            leastNewIs(x, 3, 25, 4, teeth == 8 || teeth == 20 ? 1 : 2);
        }
        Cogwright x = new Cogwright();
        x.addCutter(3, 21, 60);
        leastNewIs(x, 3, 1, 1, 1);
        leastNewIs(x, 3, 25, 4, 2);
        x.addCutter(3, 9, 19);
        leastNewIs(x, 3, 25, 4, 2);
        leastNewIs(x, 3, 361, 81, 0);
        leastNewIs(x, 3, 361, 72, 1);
        leastNewIs(x, 3, 380, 81, 1);
        x.addCutter(3, 20, 60);
        leastNewIs(x, 3, 380, 81, 0);
        leastNewIs(x, 3, 25, 4, 1);
        x.addCutter(3, 8, 8);
        leastNewIs(x, 3, 25, 4, 0);
    }

    private static void cuttersOfTheModule() {
        CHECK.sentence("a train of two stages with a module: cutters of other modules do not help");
        for (int module = 1; module <= 4; module++) {
            Cogwright x = new Cogwright();
            x.addCutter(module, 8, 60);
            for (int other = 1; other <= 4; other++) {
                leastNewIs(x, other, 1, 1, module == other ? 0 : 1);
                leastNewIs(x, other, 143, 323, module == other ? 0 : 4);
            }
        }
    }

    private static void changesNothing() {
        CHECK.sentence("leastNew only returns a number: nothing is designed by it");
        for (Scene scene : Scene.values()) {
            Cogwright one = scene.build();
            Cogwright other = scene.build();
            for (int module = 1; module <= 4; module++) {
                one.leastNew(module, 3, 2);
                other.leastNew(module, 400, 1);
            }
            CHECK.holds(scene + " is as before", scene.trace(one, other).equals(scene.trace()));
        }
    }

    private static int common(int one, int other) {
        return other == 0 ? one : common(other, one % other);
    }

    private static int key(int above, int below) {
        int divisor = common(above, below);
        return 1000 * (above / divisor) + below / divisor;
    }

    /** For each ratio of a train of two stages the least number of gears outside of the stock. */
    private static Map<Integer, Integer> plainly(int least, int most) {
        Map<Integer, Integer> found = new HashMap<>();
        for (int n = 0; n < 13 * 13 * 13 * 13; n++) {
            int[] teeth = {8 + n % 13, 8 + n / 13 % 13, 8 + n / 169 % 13, 8 + n / 2197};
            TreeSet<Integer> gears = new TreeSet<>();
            for (int gear : teeth) {
                if (gear < least || gear > most) {
                    gears.add(gear);
                }
            }
            found.merge(key(teeth[0] * teeth[1], teeth[2] * teeth[3]), gears.size(), Math::min);
        }
        return found;
    }

    private static void eachRatio() {
        CHECK.sentence("the least number of unlike gears without a cutter: all trains looked at");
        int[][] stocks = {{61, 61}, {8, 8}, {20, 20}, {12, 16}, {8, 20}};
        for (int[] stock : stocks) {
            Map<Integer, Integer> due = plainly(stock[0], stock[1]);
            for (int term : TERMS) {
                Cogwright up = new Cogwright();
                Cogwright down = new Cogwright();
                if (stock[0] <= 60) {
                    up.addCutter(4, stock[0], stock[1]);
                    down.addCutter(4, stock[0], stock[1]);
                }
                for (int other = 1; other <= 400; other++) {
                    leastNewIs(up, 4, other, term, due.getOrDefault(key(other, term), -1));
                    leastNewIs(down, 4, term, other, due.getOrDefault(key(term, other), -1));
                }
            }
        }
    }
}
