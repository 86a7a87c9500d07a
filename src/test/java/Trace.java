/**
 * What can be seen of an object: all that its calls tell, and what they do from there on. It takes
 * some 280 calls, and changes the object. Two objects are in the same state if they have the same
 * trace both ways, with the draft made a train first and with the draft scrapped first: a draft
 * that is refused as a train is seen only the second way, its ratio only the first.
 */
final class Trace {
    private final StringBuilder text = new StringBuilder();
    private final Cogwright x;
    private int passes = 0;

    private Trace(Cogwright x) {
        this.x = x;
    }

    /** The trace of an object whose draft has this distance and is made a train. */
    static String withMake(Cogwright x, int distance) {
        Trace trace = new Trace(x);
        trace.seen();
        trace.add("make", () -> x.make(distance));
        trace.trains();
        trace.goesOn();
        return trace.text.toString();
    }

    /** The trace of an object whose draft is scrapped. */
    static String withScrap(Cogwright x) {
        Trace trace = new Trace(x);
        trace.seen();
        trace.add("stage", () -> x.stage(1, 8, 8));
        trace.add("scrap", () -> x.scrap());
        trace.goesOn();
        return trace.text.toString();
    }

    private void seen() {
        cutters();
        trains();
        workshop();
        orders();
    }

    private void goesOn() {
        room();
        for (passes = 0; passes < 3; passes++) {
            add("pass", () -> x.pass(1 + 40 * passes));
            workshop();
        }
        add("pass", () -> x.pass(200));
        tests();
        orders();
        claims();
    }

    private void add(String name, Check.Call call) {
        text.append(name).append(' ');
        try {
            text.append(call.answer());
        } catch (RuntimeException e) {
            text.append(Check.nameOf(e));
        }
        text.append('\n');
    }

    private void cutters() {
        for (int module = 1; module <= 4; module++) {
            int asked = module;
            add("cutterFor 8", () -> x.cutterFor(asked, 8));
            add("cutterFor 20", () -> x.cutterFor(asked, 20));
            add("cutterFor 60", () -> x.cutterFor(asked, 60));
            add("leastNew", () -> x.leastNew(asked, 25, 4));
        }
    }

    private void trains() {
        for (int train = 0; train < 8; train++) {
            int asked = train;
            add("numerator", () -> x.numerator(asked));
            add("denominator", () -> x.denominator(asked));
        }
        claims();
    }

    private void claims() {
        for (int train = 0; train < 8; train++) {
            int asked = train;
            add("claims", () -> x.claims(asked));
        }
    }

    private void workshop() {
        add("time", () -> x.time());
        add("waiting", () -> x.waiting());
        for (int machine = 0; machine < 3; machine++) {
            int asked = machine;
            add("cutterOn", () -> x.cutterOn(asked));
            add("ticksLeft", () -> x.ticksLeft(asked));
        }
    }

    private void orders() {
        for (int order = 0; order < 12; order++) {
            int asked = order;
            add("gearsLeft", () -> x.gearsLeft(asked));
            add("doneAt", () -> x.doneAt(asked));
            add("wear 0", () -> x.wear(asked, 0));
            add("wear 3", () -> x.wear(asked, 3));
        }
    }

    // What there is still room for, and which number it gets.
    private void room() {
        add("addCutter", () -> x.addCutter(4, 8, 60));
        add("stage", () -> x.stage(4, 9, 10));
        add("make", () -> x.make(76));
        add("scrap", () -> x.scrap());
        add("order", () -> x.order(0));
    }

    private void tests() {
        for (int order = 0; order < 12; order++) {
            int asked = order;
            add("test", () -> x.test(asked, 3, 1) ? 1 : 0);
        }
    }
}
