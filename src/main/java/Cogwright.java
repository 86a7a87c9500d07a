import java.util.ArrayList;

/**
 * A design table for gear trains, with the workshop that cuts their gears and the bench that tests
 * them.
 */
public final class Cogwright {
    /** There is none. */
    public static final int NONE = -1;

    private static final int MOST_MODULE = 4;
    private static final int LEAST_TEETH = 8;
    private static final int MOST_TEETH = 60;
    private static final int MOST_DESIGN_TEETH = 20;
    private static final int MOST_RATIO_TERM = 400;
    private static final int MOST_CUTTERS = 10;
    private static final int MOST_STAGES = 4;
    private static final int MOST_TRAINS = 8;
    private static final int MOST_ORDERS = 12;
    private static final int MACHINE_COUNT = 3;
    private static final int SET_UP_TICKS = 3;
    private static final int MOST_TICKS = 200;
    private static final int MOST_TURNS = 600000;
    private static final int MOST_LOAD = 100;
    private static final int MOST_HOURS = 100;
    private static final int WEAR_PER_TOOTH = 10;
    // Euclid's rule comes to its end in fewer steps than this for any two longs.
    private static final int MOST_EUCLID_STEPS = 100;

    private final ArrayList<Cutter> cutters = new ArrayList<Cutter>();
    private final ArrayList<Train> trains = new ArrayList<Train>();
    private final ArrayList<Order> orders = new ArrayList<Order>();
    private final ArrayList<Machine> machines = new ArrayList<Machine>();
    private final ArrayList<Job> waitingRow = new ArrayList<Job>();
    private Train draft = new Train();
    private int now = 0;

    public Cogwright() {
        for (int i = 0; i < MACHINE_COUNT; i++) {
            machines.add(new Machine());
        }
    }

    // ---- cutters and trains

    public int addCutter(int module, int least, int most)
            throws IllegalArgumentException, IllegalStateException {
        if (isNoModule(module) || isNoToothCount(least) || isOutside(most, least, MOST_TEETH)) {
            throw new IllegalArgumentException("module, least or most is out of range");
        }
        if (cutters.size() >= MOST_CUTTERS) {
            throw new IllegalStateException("there are 10 cutters");
        }
        cutters.add(new Cutter(module, least, most));
        return cutters.size() - 1;
    }

    public int cutterFor(int module, int teeth) throws IllegalArgumentException {
        if (isNoModule(module) || isNoToothCount(teeth)) {
            throw new IllegalArgumentException("module or teeth is out of range");
        }
        return lowestCutter(module, teeth);
    }

    public int stage(int module, int driver, int driven)
            throws IllegalArgumentException, IllegalStateException {
        if (isNoModule(module) || isNoToothCount(driver) || isNoToothCount(driven)) {
            throw new IllegalArgumentException("module, driver or driven is out of range");
        }
        if (draft.stages.size() >= MOST_STAGES) {
            throw new IllegalStateException("the draft has 4 stages");
        }
        draft.append(new Stage(module, driver, driven));
        return draft.distance();
    }

    public int scrap() {
        int had = draft.stages.size();
        draft = new Train();
        return had;
    }

    public int make(int distance) throws IllegalStateException {
        if (draft.stages.isEmpty()) {
            throw new IllegalStateException("the draft is empty");
        }
        if (draft.distance() != distance) {
            throw new IllegalStateException("the draft has another distance");
        }
        if (!hasAllCutters(draft)) {
            throw new IllegalStateException("a gear of the draft has no cutter");
        }
        if (trains.size() >= MOST_TRAINS) {
            throw new IllegalStateException("there are 8 trains");
        }
        trains.add(draft);
        draft = new Train();
        return trains.size() - 1;
    }

    public int numerator(int train) throws IndexOutOfBoundsException {
        return (int) trainAt(train).ratio.above;
    }

    public int denominator(int train) throws IndexOutOfBoundsException {
        return (int) trainAt(train).ratio.below;
    }

    public int turned(int train, int turns)
            throws IndexOutOfBoundsException, IllegalArgumentException {
        Fraction ratio = trainAt(train).ratio;
        checkTurns(turns);
        Fraction turning = new Fraction(turns);
        turning.multiply(ratio.below, ratio.above);
        return turning.roundedDown();
    }

    public int turnedByWalk(int train, int turns)
            throws IndexOutOfBoundsException, IllegalArgumentException {
        ArrayList<Stage> stages = trainAt(train).stages;
        checkTurns(turns);
        Fraction turning = new Fraction(turns);
        for (int i = 0; i < stages.size(); i++) {
            turning.multiply(stages.get(i).driver, stages.get(i).driven);
        }
        return turning.roundedDown();
    }

    // ---- orders and machines

    public int order(int train) throws IndexOutOfBoundsException, IllegalStateException {
        Train ordered = trainAt(train);
        if (orders.size() >= MOST_ORDERS) {
            throw new IllegalStateException("there are 12 orders");
        }
        Order placed = new Order(ordered);
        orders.add(placed);
        for (int i = 0; i < ordered.stages.size(); i++) {
            Stage next = ordered.stages.get(i);
            queue(placed, next.module, next.driver);
            queue(placed, next.module, next.driven);
        }
        return orders.size() - 1;
    }

    public int pass(int ticks) throws IllegalArgumentException {
        if (isOutside(ticks, 1, MOST_TICKS)) {
            throw new IllegalArgumentException("ticks is out of range");
        }
        int cut = 0;
        for (int i = 0; i < ticks; i++) {
            now++;
            giveOutJobs();
            cut += workOneTick();
        }
        return cut;
    }

    public int time() {
        return now;
    }

    public int waiting() {
        return waitingRow.size();
    }

    public int cutterOn(int machine) throws IndexOutOfBoundsException {
        return machineAt(machine).cutter;
    }

    public int ticksLeft(int machine) throws IndexOutOfBoundsException {
        return machineAt(machine).left;
    }

    public int gearsLeft(int order) throws IndexOutOfBoundsException {
        return orderAt(order).uncut;
    }

    public int doneAt(int order) throws IndexOutOfBoundsException {
        return orderAt(order).endedAt;
    }

    // ---- tests and designs

    public boolean test(int order, int load, int hours)
            throws IndexOutOfBoundsException, IllegalArgumentException, IllegalStateException {
        Order tested = orderAt(order);
        if (isOutside(load, 1, MOST_LOAD) || isOutside(hours, 1, MOST_HOURS)) {
            throw new IllegalArgumentException("load or hours is out of range");
        }
        if (tested.uncut > 0 || tested.broken) {
            throw new IllegalStateException("the order is not done, or broken");
        }
        tested.wearDown(load * hours);
        if (tested.broken) {
            tested.train.claimed++;
        }
        return tested.broken;
    }

    public int wear(int order, int stage) throws IndexOutOfBoundsException {
        ArrayList<Mesh> meshes = orderAt(order).meshes;
        if (stage < 0 || stage >= meshes.size()) {
            throw new IndexOutOfBoundsException("no such stage");
        }
        return meshes.get(stage).worn;
    }

    public int claims(int train) throws IndexOutOfBoundsException {
        return trainAt(train).claimed;
    }

    public int leastNew(int module, int above, int below) throws IllegalArgumentException {
        if (isNoModule(module) || above < 1 || above > MOST_RATIO_TERM
                || below < 1 || below > MOST_RATIO_TERM) {
            throw new IllegalArgumentException("module, above or below is out of range");
        }
        int uncuttable = teethWithoutCutter(module);
        int least = NONE;
        for (int one = LEAST_TEETH; one <= MOST_DESIGN_TEETH; one++) {
            for (int other = one; other <= MOST_DESIGN_TEETH; other++) {
                int needed = one * other * above;
                if (needed % below == 0) {
                    int drivers = (1 << one) | (1 << other);
                    least = lesser(least, leastWithDrivers(drivers, needed / below, uncuttable));
                }
            }
        }
        return least;
    }

    // ---- what the calls share

    private static boolean isOutside(int value, int least, int most) {
        return value < least || value > most;
    }

    private static boolean isNoModule(int module) {
        return isOutside(module, 1, MOST_MODULE);
    }

    private static boolean isNoToothCount(int teeth) {
        return isOutside(teeth, LEAST_TEETH, MOST_TEETH);
    }

    private static void checkTurns(int turns) {
        if (isOutside(turns, 0, MOST_TURNS)) {
            throw new IllegalArgumentException("turns is out of range");
        }
    }

    private Train trainAt(int train) {
        if (train < 0 || train >= trains.size()) {
            throw new IndexOutOfBoundsException("no such train");
        }
        return trains.get(train);
    }

    private Order orderAt(int order) {
        if (order < 0 || order >= orders.size()) {
            throw new IndexOutOfBoundsException("no such order");
        }
        return orders.get(order);
    }

    private Machine machineAt(int machine) {
        if (machine < 0 || machine >= machines.size()) {
            throw new IndexOutOfBoundsException("no such machine");
        }
        return machines.get(machine);
    }

    private int lowestCutter(int module, int teeth) {
        for (int i = 0; i < cutters.size(); i++) {
            if (cutters.get(i).cuts(module, teeth)) {
                return i;
            }
        }
        return NONE;
    }

    private boolean hasAllCutters(Train train) {
        for (int i = 0; i < train.stages.size(); i++) {
            Stage next = train.stages.get(i);
            if (lowestCutter(next.module, next.driver) == NONE
                    || lowestCutter(next.module, next.driven) == NONE) {
                return false;
            }
        }
        return true;
    }

    // A later cutter has a higher number, so the cutter that a job gets here stays its cutter.
    private void queue(Order order, int module, int teeth) {
        waitingRow.add(new Job(order, teeth, lowestCutter(module, teeth)));
    }

    private void giveOutJobs() {
        for (int i = 0; i < machines.size(); i++) {
            Machine machine = machines.get(i);
            if (machine.job == null) {
                giveJob(machine);
            }
        }
    }

    private void giveJob(Machine machine) {
        int at = firstWithCutterOf(machine);
        int setUp = 0;
        if (at == NONE) {
            at = firstWithFreeCutter(machine);
            setUp = SET_UP_TICKS;
        }
        if (at < 0 || at >= waitingRow.size()) {
            return;
        }
        machine.begin(waitingRow.get(at), setUp);
        waitingRow.remove(at);
    }

    private int firstWithCutterOf(Machine machine) {
        for (int i = 0; i < waitingRow.size(); i++) {
            if (waitingRow.get(i).cutter == machine.cutter) {
                return i;
            }
        }
        return NONE;
    }

    private int firstWithFreeCutter(Machine machine) {
        for (int i = 0; i < waitingRow.size(); i++) {
            if (!isOnAnother(machine, waitingRow.get(i).cutter)) {
                return i;
            }
        }
        return NONE;
    }

    private boolean isOnAnother(Machine machine, int cutter) {
        for (int i = 0; i < machines.size(); i++) {
            Machine other = machines.get(i);
            if (other != machine && other.cutter == cutter) {
                return true;
            }
        }
        return false;
    }

    private int workOneTick() {
        int cut = 0;
        for (int i = 0; i < machines.size(); i++) {
            Order served = machines.get(i).work();
            if (served != null) {
                served.countCutGear(now);
                cut++;
            }
        }
        return cut;
    }

    // One bit for each number of teeth of a design, so that gears with the same teeth count once.
    private int teethWithoutCutter(int module) {
        int bits = 0;
        for (int teeth = LEAST_TEETH; teeth <= MOST_DESIGN_TEETH; teeth++) {
            if (lowestCutter(module, teeth) == NONE) {
                bits |= 1 << teeth;
            }
        }
        return bits;
    }

    /** The least number of new gears if the teeth of two driven gears must have this product. */
    private static int leastWithDrivers(int drivers, int product, int uncuttable) {
        int least = NONE;
        for (int one = LEAST_TEETH; one <= MOST_DESIGN_TEETH; one++) {
            int other = product / one;
            if (other * one == product && !isOutside(other, one, MOST_DESIGN_TEETH)) {
                int gears = drivers | (1 << one) | (1 << other);
                least = lesser(least, Integer.bitCount(gears & uncuttable));
            }
        }
        return least;
    }

    private static int lesser(int one, int other) {
        if (one == NONE) {
            return other;
        }
        return other == NONE ? one : Math.min(one, other);
    }

    private static long commonDivisor(long one, long other) {
        long greater = one;
        long rest = other;
        for (int i = 0; i < MOST_EUCLID_STEPS && rest != 0; i++) {
            long left = greater % rest;
            greater = rest;
            rest = left;
        }
        return greater;
    }

    private static final class Cutter {
        final int module;
        final int least;
        final int most;

        Cutter(int module, int least, int most) {
            this.module = module;
            this.least = least;
            this.most = most;
        }

        boolean cuts(int ofModule, int teeth) {
            return module == ofModule && teeth >= least && teeth <= most;
        }
    }

    private static final class Stage {
        final int module;
        final int driver;
        final int driven;

        Stage(int module, int driver, int driven) {
            this.module = module;
            this.driver = driver;
            this.driven = driven;
        }

        int wearOf(int work) {
            return module > 0 ? work / module : 0;
        }

        int mostWear() {
            return WEAR_PER_TOOTH * Math.min(driver, driven);
        }
    }

    private static final class Train {
        final ArrayList<Stage> stages = new ArrayList<Stage>();
        final Fraction ratio = new Fraction(1);
        int claimed = 0;

        void append(Stage added) {
            stages.add(added);
            ratio.multiply(added.driven, added.driver);
        }

        int distance() {
            int sum = 0;
            for (int i = 0; i < stages.size(); i++) {
                Stage next = stages.get(i);
                sum += next.module * (next.driver + next.driven);
            }
            return sum;
        }
    }

    /** A fraction in lowest terms, not below 0. */
    private static final class Fraction {
        long above;
        long below = 1;

        Fraction(long whole) {
            above = whole;
        }

        void multiply(long byAbove, long byBelow) {
            above *= byAbove;
            below *= byBelow;
            long divisor = commonDivisor(above, below);
            if (divisor > 1) {
                above /= divisor;
                below /= divisor;
            }
        }

        int roundedDown() {
            return below > 0 ? (int) (above / below) : 0;
        }
    }

    private static final class Order {
        final Train train;
        final ArrayList<Mesh> meshes = new ArrayList<Mesh>();
        int uncut;
        int endedAt = NONE;
        boolean broken = false;

        Order(Train train) {
            this.train = train;
            for (int i = 0; i < train.stages.size(); i++) {
                meshes.add(new Mesh(train.stages.get(i)));
            }
            uncut = 2 * train.stages.size();
        }

        void countCutGear(int at) {
            uncut--;
            if (uncut == 0) {
                endedAt = at;
            }
        }

        void wearDown(int work) {
            for (int i = 0; i < meshes.size(); i++) {
                Mesh mesh = meshes.get(i);
                mesh.worn += mesh.gears.wearOf(work);
                if (mesh.worn > mesh.gears.mostWear()) {
                    broken = true;
                }
            }
        }
    }

    /** A stage of an order, as it was cut: it has a wear of its own. */
    private static final class Mesh {
        final Stage gears;
        int worn = 0;

        Mesh(Stage gears) {
            this.gears = gears;
        }
    }

    private static final class Job {
        final Order order;
        final int teeth;
        final int cutter;

        Job(Order order, int teeth, int cutter) {
            this.order = order;
            this.teeth = teeth;
            this.cutter = cutter;
        }
    }

    private static final class Machine {
        int cutter = NONE;
        Job job = null;
        int left = 0;

        void begin(Job taken, int setUp) {
            job = taken;
            cutter = taken.cutter;
            left = setUp + taken.teeth;
        }

        /** Works a tick; answers the order whose gear is cut by that, or null. */
        Order work() {
            if (job == null) {
                return null;
            }
            left--;
            if (left > 0) {
                return null;
            }
            Order served = job.order;
            job = null;
            return served;
        }
    }
}
