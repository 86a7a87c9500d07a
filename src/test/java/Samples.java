/** What several tests begin with. */
final class Samples {
    private Samples() {
    }

    /** One cutter a module, for all numbers of teeth: cutter module - 1. */
    static Cogwright withAllCutters() {
        Cogwright x = new Cogwright();
        for (int module = 1; module <= 4; module++) {
            x.addCutter(module, 8, 60);
        }
        return x;
    }

    /** Makes a train of stages, each told by its module, driver and driven gear. */
    static int train(Cogwright x, int... stages) {
        int distance = 0;
        for (int i = 0; i + 2 < stages.length; i += 3) {
            distance = x.stage(stages[i], stages[i + 1], stages[i + 2]);
        }
        return x.make(distance);
    }
}
