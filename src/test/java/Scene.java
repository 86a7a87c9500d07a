/** States in which calls are refused: the empty one, one in the midst of work, the full one. */
enum Scene {
    EMPTY(0, 0, 0) {
        @Override
        Cogwright build() {
            return new Cogwright();
        }
    },

    /**
     * Order 0 is whole with all the wear that it bears, order 1 broken, 2 and 3 in work; machine 1
     * is without a job, and one of its cutter waits.
     */
    BUSY(2, 4, 85) {
        @Override
        Cogwright build() {
            Cogwright x = new Cogwright();
            x.addCutter(1, 8, 20);
            x.addCutter(2, 10, 30);
            x.addCutter(3, 8, 60);
            x.addCutter(1, 15, 60);
            Samples.train(x, 1, 10, 16, 2, 12, 18);
            Samples.train(x, 3, 20, 40);
            x.order(1);
            x.order(1);
            x.pass(123);
            x.test(0, 100, 6);
            x.test(1, 100, 7);
            x.order(0);
            x.order(1);
            x.pass(13);
            x.stage(1, 9, 16);
            x.stage(2, 11, 19);
            return x;
        }
    },

    /** As the one before, with a full draft. */
    DRAFTED(2, 4, 165) {
        @Override
        Cogwright build() {
            Cogwright x = BUSY.build();
            x.stage(3, 8, 9);
            x.stage(1, 14, 15);
            return x;
        }
    },

    /** Order 0 is whole, order 1 broken, the last ones wait or are in work. */
    FULL(8, 12, 136) {
        @Override
        Cogwright build() {
            Cogwright x = new Cogwright();
            for (int cutter = 0; cutter < 10; cutter++) {
                x.addCutter(1 + cutter % 4, 8, 40 + cutter);
            }
            for (int train = 0; train < 8; train++) {
                Samples.train(x, 1 + train % 4, 8, 9 + train);
            }
            for (int order = 0; order < 12; order++) {
                x.order(order % 8);
            }
            x.pass(60);
            x.test(0, 8, 10);
            x.test(1, 100, 100);
            for (int stage = 0; stage < 4; stage++) {
                x.stage(2, 8, 9);
            }
            return x;
        }
    };

    final int trains;
    final int orders;
    /** The distance of the draft. */
    final int distance;

    Scene(int trains, int orders, int distance) {
        this.trains = trains;
        this.orders = orders;
        this.distance = distance;
    }

    abstract Cogwright build();

    /** The trace of two objects, one for each way. */
    String trace(Cogwright one, Cogwright other) {
        return Trace.withMake(one, distance) + Trace.withScrap(other);
    }

    String trace() {
        return trace(build(), build());
    }
}
