import java.math.BigInteger;

/**
 * Runs of 512 calls with ordinary and wild arguments: each answer is compared with that of a model
 * that is written another way. The runs are the same each time: their arguments come from a row of
 * numbers that begins with the number of the run.
 */
final class LongRunsTest {
    private static final int RUNS = 300;
    private static final int CALLS = 512;
    private static final int FACE = 21;
    private static final int[] WILD = {
        Integer.MIN_VALUE, -2147483647, -1000, -1, 0, 1, 7, 8, 61, 401, 600001, 65536, 1 << 30,
        Integer.MAX_VALUE,
    };

    // The calls of a busy run, as often as they stand here.
    private static final int[] OFTEN = {
        0, 1, 2, 2, 2, 2, 2, 2, 3, 4, 4, 4, 5, 6, 7, 8, 9, 9, 10, 10, 10, 10, 10, 10, 10, 10, 11,
        12, 12, 12, 13, 13, 13, 14, 14, 14, 15, 15, 16, 16, 17, 17, 17, 18, 18, 19, 19, 20,
    };

    private long row;

    public static void main(String[] args) {
        Check check = new Check("LongRunsTest");
        for (int run = 0; run < RUNS; run++) {
            new LongRunsTest().run(check, run);
        }
        check.end();
    }

    private void run(Check check, int run) {
        row = 7919L * run + 1;
        Cogwright real = new Cogwright();
        Model model = new Model();
        for (int n = 0; n < CALLS; n++) {
            int call = run % 3 == 0 ? pick(FACE) : OFTEN[pick(OFTEN.length)];
            int[] a = arguments(call, model);
            String due = model.answer(call, a);
            String got = answer(real, call, a);
            check.holds("run " + run + ", call " + n + ": " + name(call) + "(" + a[0] + ", " + a[1]
                    + ", " + a[2] + ") answered " + got + ", due is " + due, due.equals(got));
        }
    }

    private int pick(int below) {
        row = row * 6364136223846793005L + 1442695040888963407L;
        return (int) ((row >>> 33) % below);
    }

    private int between(int least, int most) {
        return least + pick(most - least + 1);
    }

    private int[] arguments(int call, Model model) {
        int[] a = ordinary(call, model);
        if (pick(12) == 0) {
            a[pick(3)] = WILD[pick(WILD.length)];
        }
        return a;
    }

    private int[] ordinary(int call, Model model) {
        switch (call) {
            case 0: {
                int least = between(8, pick(2) == 0 ? 60 : 12);
                return new int[] {between(1, 4), least, between(pick(2) == 0 ? 50 : least, 60)};
            }
            case 1:
                return new int[] {between(1, 4), between(8, 60), 0};
            case 2:
                return stage(model);
            case 4:
                return new int[] {model.distance() + (pick(6) == 0 ? 1 : 0), 0, 0};
            case 7:
            case 8:
                return new int[] {pick(model.trains + 1), between(0, 600000), 0};
            case 10:
                return new int[] {between(1, pick(3) == 0 ? 200 : 12), 0, 0};
            case 13:
            case 14:
                return new int[] {pick(3), 0, 0};
            case 17:
                return new int[] {pick(model.orders + 1), between(1, 100), between(1, 4)};
            case 20:
                return new int[] {between(1, 4), ratioTerm(), ratioTerm()};
            default: {
                boolean train = call < 10 || call == 19;
                return new int[] {pick(1 + (train ? model.trains : model.orders)), pick(5), 0};
            }
        }
    }

    // Most stages are such that there are cutters for them, so that trains can be made of them.
    private int[] stage(Model model) {
        if (model.cutters == 0 || pick(8) == 0) {
            return new int[] {between(1, 4), between(8, 60), between(8, 60)};
        }
        int[] by = model.cutter[pick(model.cutters)];
        int most = Math.min(by[2], by[1] + between(0, 52));
        return new int[] {by[0], between(by[1], most), between(by[1], most)};
    }

    private int ratioTerm() {
        return pick(2) == 0 ? between(1, 400) : between(8, 20) * between(1, 20);
    }

    private static String name(int call) {
        String[] names = {
            "addCutter", "cutterFor", "stage", "scrap", "make", "numerator", "denominator",
            "turned", "turnedByWalk", "order", "pass", "time", "waiting", "cutterOn", "ticksLeft",
            "gearsLeft", "doneAt", "test", "wear", "claims", "leastNew",
        };
        return names[call];
    }

    private static String answer(Cogwright x, int call, int[] a) {
        try {
            return "" + call(x, call, a);
        } catch (RuntimeException e) {
            return Check.nameOf(e);
        }
    }

    private static int call(Cogwright x, int call, int[] a) {
        switch (call) {
            case 0: return x.addCutter(a[0], a[1], a[2]);
            case 1: return x.cutterFor(a[0], a[1]);
            case 2: return x.stage(a[0], a[1], a[2]);
            case 3: return x.scrap();
            case 4: return x.make(a[0]);
            case 5: return x.numerator(a[0]);
            case 6: return x.denominator(a[0]);
            case 7: return x.turned(a[0], a[1]);
            case 8: return x.turnedByWalk(a[0], a[1]);
            case 9: return x.order(a[0]);
            case 10: return x.pass(a[0]);
            case 11: return x.time();
            case 12: return x.waiting();
            case 13: return x.cutterOn(a[0]);
            case 14: return x.ticksLeft(a[0]);
            case 15: return x.gearsLeft(a[0]);
            case 16: return x.doneAt(a[0]);
            case 17: return x.test(a[0], a[1], a[2]) ? 1 : 0;
            case 18: return x.wear(a[0], a[1]);
            case 19: return x.claims(a[0]);
            default: return x.leastNew(a[0], a[1], a[2]);
        }
    }

    /** What the document says, in rows of numbers. */
    private static final class Model {
        private static final String BOUNDS = "throws.IndexOutOfBoundsException";
        private static final String ARGUMENT = "throws.IllegalArgumentException";
        private static final String STATE = "throws.IllegalStateException";

        private final int[][] cutter = new int[10][];
        private int cutters;
        private int[] draft = {};
        private final int[][] train = new int[8][];
        private final int[] claims = new int[8];
        private int trains;
        private final int[] trainOf = new int[12];
        private final int[][] wear = new int[12][];
        private final boolean[] broken = new boolean[12];
        private int orders;
        // A job: its order, teeth, module, and the tick at which it was cut, or 0.
        private final int[][] job = new int[96][];
        private final boolean[] taken = new boolean[96];
        private int jobs;
        private final int[] on = {-1, -1, -1};
        private final int[] doing = {-1, -1, -1};
        private final int[] until = new int[3];
        private int now;

        String answer(int call, int[] a) {
            if (call < 5) {
                return drafting(call, a);
            }
            if (call < 9 || call == 19) {
                return ofTrain(call, a);
            }
            if (call < 15) {
                return shop(call, a);
            }
            return call == 20 ? leastNew(a) : ofOrder(call, a);
        }

        int distance() {
            int sum = 0;
            for (int i = 0; i < draft.length; i += 3) {
                sum += draft[i] * draft[i + 1] + draft[i] * draft[i + 2];
            }
            return sum;
        }

        private static boolean in(int value, int least, int most) {
            return least <= value && value <= most;
        }

        private static boolean gear(int module, int teeth) {
            return in(module, 1, 4) && in(teeth, 8, 60);
        }

        private int cutterFor(int module, int teeth) {
            int found = -1;
            for (int i = cutters - 1; i >= 0; i--) {
                if (cutter[i][0] == module && in(teeth, cutter[i][1], cutter[i][2])) {
                    found = i;
                }
            }
            return found;
        }

        private String drafting(int call, int[] a) {
            if (call == 0) {
                if (!gear(a[0], a[1]) || !gear(a[0], a[2]) || a[2] < a[1]) {
                    return ARGUMENT;
                }
                if (cutters == 10) {
                    return STATE;
                }
                cutter[cutters] = a.clone();
                return "" + cutters++;
            }
            if (call == 1) {
                return gear(a[0], a[1]) ? "" + cutterFor(a[0], a[1]) : ARGUMENT;
            }
            if (call == 2) {
                return stage(a);
            }
            if (call == 3) {
                int had = draft.length / 3;
                draft = new int[0];
                return "" + had;
            }
            return make(a[0]);
        }

        private String stage(int[] a) {
            if (!gear(a[0], a[1]) || !gear(a[0], a[2])) {
                return ARGUMENT;
            }
            if (draft.length == 12) {
                return STATE;
            }
            int[] longer = java.util.Arrays.copyOf(draft, draft.length + 3);
            System.arraycopy(a, 0, longer, draft.length, 3);
            draft = longer;
            return "" + distance();
        }

        private String make(int distance) {
            boolean cuts = true;
            for (int i = 0; i < draft.length; i += 3) {
                cuts &= cutterFor(draft[i], draft[i + 1]) >= 0;
                cuts &= cutterFor(draft[i], draft[i + 2]) >= 0;
            }
            if (draft.length == 0 || distance != distance() || !cuts || trains == 8) {
                return STATE;
            }
            train[trains] = draft;
            draft = new int[0];
            return "" + trains++;
        }

        private String ofTrain(int call, int[] a) {
            if (!in(a[0], 0, trains - 1)) {
                return BOUNDS;
            }
            if (call == 19) {
                return "" + claims[a[0]];
            }
            BigInteger driven = BigInteger.ONE;
            BigInteger driver = BigInteger.ONE;
            for (int i = 0; i < train[a[0]].length; i += 3) {
                driver = driver.multiply(BigInteger.valueOf(train[a[0]][i + 1]));
                driven = driven.multiply(BigInteger.valueOf(train[a[0]][i + 2]));
            }
            if (call < 7) {
                BigInteger asked = call == 5 ? driven : driver;
                return asked.divide(driven.gcd(driver)).toString();
            }
            if (!in(a[1], 0, 600000)) {
                return ARGUMENT;
            }
            return BigInteger.valueOf(a[1]).multiply(driver).divide(driven).toString();
        }

        private String shop(int call, int[] a) {
            if (call == 9) {
                return order(a[0]);
            }
            if (call == 10) {
                return pass(a[0]);
            }
            if (call == 11) {
                return "" + now;
            }
            if (call == 12) {
                int waiting = 0;
                for (int j = 0; j < jobs; j++) {
                    waiting += taken[j] ? 0 : 1;
                }
                return "" + waiting;
            }
            if (!in(a[0], 0, 2)) {
                return BOUNDS;
            }
            return "" + (call == 13 ? on[a[0]] : Math.max(0, until[a[0]] - now));
        }

        private String order(int which) {
            if (!in(which, 0, trains - 1)) {
                return BOUNDS;
            }
            if (orders == 12) {
                return STATE;
            }
            int[] stages = train[which];
            for (int i = 0; i < stages.length; i += 3) {
                job[jobs++] = new int[] {orders, stages[i + 1], stages[i], 0};
                job[jobs++] = new int[] {orders, stages[i + 2], stages[i], 0};
            }
            trainOf[orders] = which;
            wear[orders] = new int[stages.length / 3];
            return "" + orders++;
        }

        private String pass(int ticks) {
            if (!in(ticks, 1, 200)) {
                return ARGUMENT;
            }
            int cut = 0;
            for (int end = now + ticks; now < end; ) {
                now++;
                for (int m = 0; m < 3; m++) {
                    if (doing[m] < 0) {
                        give(m);
                    }
                }
                for (int m = 0; m < 3; m++) {
                    if (doing[m] >= 0 && until[m] == now) {
                        job[doing[m]][3] = now;
                        doing[m] = -1;
                        cut++;
                    }
                }
            }
            return "" + cut;
        }

        private void give(int m) {
            for (int setUp = 0; setUp <= 3; setUp += 3) {
                for (int j = 0; j < jobs; j++) {
                    int needed = cutterFor(job[j][2], job[j][1]);
                    boolean others = on[(m + 1) % 3] == needed || on[(m + 2) % 3] == needed;
                    if (!taken[j] && (setUp == 0 ? on[m] == needed : !others)) {
                        taken[j] = true;
                        on[m] = needed;
                        doing[m] = j;
                        // The tick that gives the job out is worked at it already.
                        until[m] = now - 1 + setUp + job[j][1];
                        return;
                    }
                }
            }
        }

        private String ofOrder(int call, int[] a) {
            if (!in(a[0], 0, orders - 1)) {
                return BOUNDS;
            }
            int left = 0;
            int last = 0;
            for (int j = 0; j < jobs; j++) {
                if (job[j][0] == a[0]) {
                    left += job[j][3] == 0 ? 1 : 0;
                    last = Math.max(last, job[j][3]);
                }
            }
            if (call == 15) {
                return "" + left;
            }
            if (call == 16) {
                return "" + (left > 0 ? -1 : last);
            }
            if (call == 18) {
                return in(a[1], 0, wear[a[0]].length - 1) ? "" + wear[a[0]][a[1]] : BOUNDS;
            }
            if (!in(a[1], 1, 100) || !in(a[2], 1, 100)) {
                return ARGUMENT;
            }
            return left > 0 || broken[a[0]] ? STATE : test(a[0], a[1] * a[2]);
        }

        private String test(int order, int work) {
            int[] stages = train[trainOf[order]];
            for (int s = 0; s < wear[order].length; s++) {
                wear[order][s] += work / stages[3 * s];
                broken[order] |= wear[order][s] > 10 * stages[3 * s + 1]
                        || wear[order][s] > 10 * stages[3 * s + 2];
            }
            claims[trainOf[order]] += broken[order] ? 1 : 0;
            return broken[order] ? "1" : "0";
        }

        private String leastNew(int[] a) {
            if (!in(a[0], 1, 4) || !in(a[1], 1, 400) || !in(a[2], 1, 400)) {
                return ARGUMENT;
            }
            int least = 5;
            for (int n = 0; n < 13 * 13 * 13 * 13; n++) {
                int[] teeth = {8 + n % 13, 8 + n / 13 % 13, 8 + n / 169 % 13, 8 + n / 2197};
                if (teeth[0] * teeth[1] * a[2] == teeth[2] * teeth[3] * a[1]) {
                    least = Math.min(least, unlike(a[0], teeth));
                }
            }
            return "" + (least == 5 ? -1 : least);
        }

        private int unlike(int module, int[] teeth) {
            int count = 0;
            for (int i = 0; i < 4; i++) {
                boolean earlier = false;
                for (int k = 0; k < i; k++) {
                    earlier |= teeth[k] == teeth[i];
                }
                count += !earlier && cutterFor(module, teeth[i]) < 0 ? 1 : 0;
            }
            return count;
        }
    }
}
