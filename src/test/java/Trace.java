/**
 * What can be seen of an object: all that its calls tell, and what they do from there on. Two
 * objects of the same trace are in the same state. It takes some 250 calls, and changes the object.
 */
final class Trace {
    private final StringBuilder text = new StringBuilder();
    private final Cogwright x;

    private Trace(Cogwright x) {
        this.x = x;
    }

    /** The trace of an object whose draft has this distance. */
    static String of(Cogwright x, int distance) {
        Trace trace = new Trace(x);
        trace.cutters();
        trace.trains();
        trace.workshop();
        trace.orders();
        trace.draft(distance);
        trace.room();
        for (int i = 0; i < 3; i++) {
            trace.add("pass", () -> x.pass(1 + 40 * trace.step()));
            trace.workshop();
        }
        trace.add("pass", () -> x.pass(200));
        trace.orders();
        trace.claims();
        return trace.text.toString();
    }

    private int steps = 0;

    private int step() {
        return steps++;
    }

    private void add(String name, Check.Call call) {
        text.append(name).append(' ');
        try {
            text.append(call.answer());
        } catch (RuntimeException e) {
            text.append(Check.nameOf(e));
        }
        text.append('\n');
    }

    private void cutters() {
        for (int module = 1; module <= 4; module++) {
            int asked = module;
            add("cutterFor 8", () -> x.cutterFor(asked, 8));
            add("cutterFor 20", () -> x.cutterFor(asked, 20));
            add("cutterFor 60", () -> x.cutterFor(asked, 60));
            add("leastNew", () -> x.leastNew(asked, 25, 4));
        }
    }

    private void trains() {
        for (int train = 0; train < 8; train++) {
            int asked = train;
            add("numerator", () -> x.numerator(asked));
            add("denominator", () -> x.denominator(asked));
        }
        claims();
    }

    private void claims() {
        for (int train = 0; train < 8; train++) {
            int asked = train;
            add("claims", () -> x.claims(asked));
        }
    }

    private void workshop() {
        add("time", () -> x.time());
        add("waiting", () -> x.waiting());
        for (int machine = 0; machine < 3; machine++) {
            int asked = machine;
            add("cutterOn", () -> x.cutterOn(asked));
            add("ticksLeft", () -> x.ticksLeft(asked));
        }
    }

    private void orders() {
        for (int order = 0; order < 12; order++) {
            int asked = order;
            add("gearsLeft", () -> x.gearsLeft(asked));
            add("doneAt", () -> x.doneAt(asked));
            add("wear 0", () -> x.wear(asked, 0));
            add("wear 3", () -> x.wear(asked, 3));
        }
    }

    private void draft(int distance) {
        add("make", () -> x.make(distance));
        trains();
        add("stage", () -> x.stage(1, 8, 8));
        add("scrap", () -> x.scrap());
    }

    // What there is still room for, and which number it gets.
    private void room() {
        add("addCutter", () -> x.addCutter(4, 8, 60));
        add("stage", () -> x.stage(4, 9, 10));
        add("make", () -> x.make(76));
        add("order", () -> x.order(0));
        add("test 0", () -> x.test(0, 3, 1) ? 1 : 0);
        add("test 1", () -> x.test(1, 3, 1) ? 1 : 0);
        add("test 2", () -> x.test(2, 3, 1) ? 1 : 0);
    }
}
