import java.util.Arrays;

/** The sentences of promises 1 to 28 that name an edge, in the document's order, with a test each. */
final class PromiseTest {
    private static final int[] LOWER = {3000, 3300, 3450, 3520, 3560, 3600, 3650, 3730, 3830, 3950, 4100};

    public static void main(String[] args) {
        newObject();
        begin();
        set();
        setCurve();
        curve();
        measure();
        repeat();
        simulate();
        charges();
        ratios();
        voltages();
        log();
        boundAfter();
        reaches();
        lasts();
        wouldAnchor();
        text();
        everyByte();
        replay();
        undo();
        digest();
        Check.end();
    }

    private static ChargeEstimator exact(int capacity, int charge) {
        ChargeEstimator x = new ChargeEstimator();
        x.set(0, 1000);
        x.set(1, 0);
        x.set(2, 0);
        x.begin(capacity, charge);
        return x;
    }

    private static final int[] EXTREMES = {Integer.MIN_VALUE, Integer.MIN_VALUE + 1, Integer.MAX_VALUE, Integer.MAX_VALUE - 1};

    // ---- promise 1

    /** "Creates an estimator with the initial values and an empty log." */
    private static void newObject() {
        ChargeEstimator other = new ChargeEstimator();
        other.set(0, 900);
        other.setCurve(0, 2000, 2000);
        other.measure(-1, 2900, 1);
        other.append('x');
        ChargeEstimator x = new ChargeEstimator();
        Check.due("a new one shares nothing: value", x.value(0), 995);
        Check.due("a new one shares nothing: curve", x.curve(0, false), 3000);
        Check.due("a new one shares nothing: log", x.anchors(), 0);
        Check.due("a new one shares nothing: text", x.clearText(), 0);
        Check.dueState("a new one shares nothing: saved states", x, () -> x.undo());
        Check.due("soc of q", x.soc(0), 5000);
        Check.due("soc of lo", x.soc(1), 0);
        Check.due("soc of hi", x.soc(2), 10000);
        Check.due("health", x.healthBits(), 0x3F800000);
        Check.due("an empty text", x.replay(), 0);
        Check.dueIndex("no anchor", x, () -> x.anchor(0, 0));
    }

    // ---- promise 2

    private static void begin() {
        beginCapacities();
        beginCharges();
        beginForgets();
        beginKeeps();
    }

    /** "N and C become 3600 times its milliampere-hours" and "capacity: 100 to 20000" */
    private static void beginCapacities() {
        ChargeEstimator x = new ChargeEstimator();
        for (int capacity : new int[] {100, 101, 2000, 19999, 20000}) {
            x.begin(capacity, ChargeEstimator.NONE);
            long n = 3600L * capacity;
            Check.dueCharges("begin(" + capacity + ", NONE)", x, n / 2, 0, n, n, n, 0, 0);
        }
        for (int capacity : new int[] {99, 20001, 0, -1, -100, Integer.MIN_VALUE, Integer.MAX_VALUE}) {
            Check.dueIllegal("begin(" + capacity + ", 5000)", x, () -> x.begin(capacity, 5000));
            Check.dueIllegal("begin(" + capacity + ", NONE)", x, () -> x.begin(capacity, ChargeEstimator.NONE));
        }
    }

    /** "0 to 10000, the state of charge to which q, lo and hi are set (as N * charge / 10000), or NONE" */
    private static void beginCharges() {
        ChargeEstimator x = new ChargeEstimator();
        int[][] due = {{0, 0}, {1, 36}, {9, 327}, {5000, 181800}, {9999, 363563}, {10000, 363600}};
        for (int[] d : due) {
            x.begin(101, d[0]);
            Check.dueCharges("begin(101, " + d[0] + ")", x, d[1], d[1], d[1], 363600, 363600, 0, 0);
        }
        for (int charge : new int[] {-2, 10001, Integer.MIN_VALUE, Integer.MAX_VALUE}) {
            Check.dueIllegal("begin(100, " + charge + ")", x, () -> x.begin(100, charge));
        }
    }

    /** "all counters, charges and times 0, the log empty, no measurement and no anchor before" */
    private static void beginForgets() {
        ChargeEstimator x = exact(2000, 0);
        Check.due("full, a conflict", x.measure(0, 4200, 60), 2);
        x.measure(-12000, 3600, 600);
        Check.due("empty, a learning", x.measure(-1, 2900, 1), 4);
        x.measure(100, 4200, 9);
        x.measure(20, 4200, 9);
        Check.dueStatus("before begin", x, 9, 18, 1, 1, 1, 679);
        Check.due("hq before begin", x.charge(5), 1080);
        Check.due("counted before begin", x.charge(6), 1080);
        Check.due("anchors removed", x.begin(3000, 2500), 2);
        Check.dueStatus("after begin", x, 0, 0, 0, 0, 0, 0);
        Check.dueCharges("after begin", x, 2700000, 2700000, 2700000, 10800000, 10800000, 0, 0);
        Check.due("throughput", x.throughput(), 0);
        Check.dueThat("cycles", x.cycles() == 0.0);
        Check.due("health", x.healthBits(), 0x3F800000);
        Check.due("none left to remove", x.begin(3000, 2500), 0);
        Check.due("undo of the second begin", x.undo(), 3);
        Check.due("undo of the first begin", x.undo(), 2);
        Check.dueStatus("undone", x, 9, 18, 1, 1, 1, 679);
        Check.due("and the measurement before is back", x.measure(0, 4200, 1), 0);
        Check.due("so the rest goes on", x.status(0), 10);
        x.undo();
        x.begin(3000, 2500);
        x.measure(0, 4200, 1);
        Check.due("no measurement before", x.status(0), 0);
    }

    /** "settings and curves stay" */
    private static void beginKeeps() {
        ChargeEstimator x = new ChargeEstimator();
        for (int i = 0; i < 12; i++) {
            x.set(i, x.value(i) == 4000 ? 3999 : x.value(i) + (i == 0 ? 5 : 1));
        }
        x.setCurve(0, 2500, 2600);
        x.setCurve(10, 4500, 4600);
        int[] kept = new int[12];
        for (int i = 0; i < 12; i++) {
            kept[i] = x.value(i);
        }
        Check.write(x, "0,0,1;");
        x.begin(100, 0);
        for (int i = 0; i < 12; i++) {
            Check.due("begin keeps setting " + i, x.value(i), kept[i]);
        }
        Check.due("begin keeps the lower branch", x.curve(0, false), 2500);
        Check.due("begin keeps the upper branch", x.curve(10, true), 4600);
        Check.due("begin keeps the text", x.replay(), 1);
        Check.due("begin keeps the saved states", x.undo(), 3);
    }

    // ---- promises 3 and 4

    private static void set() {
        ChargeEstimator x = new ChargeEstimator();
        for (int what : new int[] {-1, 12, 13, -12, Integer.MIN_VALUE, Integer.MAX_VALUE}) {
            Check.dueIllegal("set(" + what + ", 1000)", x, () -> x.set(what, 1000));
            Check.dueIllegal("value(" + what + ")", x, () -> x.value(what));
        }
        for (int i = 0; i < 12; i++) {
            int what = i;
            for (int value : EXTREMES) {
                Check.dueIllegal("set(" + what + ", " + value + ")", x, () -> x.set(what, value));
            }
        }
        Check.due("the same value again", x.set(4, 20), 20);
        Check.due("is saved, too", x.undo(), 0);
        setBringsDown();
    }

    /** "(hq is brought down to H if it is above it then.)" */
    private static void setBringsDown() {
        ChargeEstimator x = exact(100, 5000);
        x.set(3, 50);
        x.measure(36000, 3600, 1);
        x.set(3, 10);
        Check.due("hq just at the new H", x.charge(5), 36000);
        Check.due("h", x.status(2), 1000);
        x.set(3, 9);
        Check.due("hq above the new H", x.charge(5), 32400);
        Check.due("h", x.status(2), 1000);
        x.set(3, 50);
        Check.due("hq does not come up again", x.charge(5), 32400);
        Check.due("h", x.status(2), 180);
        x.set(3, 1);
        Check.due("hq at the least H", x.charge(5), 3600);
        for (int i = 0; i < 12; i++) {
            x.set(i, x.value(i));
            Check.due("another setting leaves hq", x.charge(5), 3600);
        }
    }

    // ---- promises 5 and 6

    private static void setCurve() {
        curveNeighbours();
        curveRanges();
    }

    /** "a branch would not be strictly ascending": at every point, by both of its neighbours, in both branches */
    private static void curveNeighbours() {
        for (int i = 0; i <= 10; i++) {
            int point = i;
            ChargeEstimator x = new ChargeEstimator();
            if (point < 10) {
                int next = LOWER[point + 1];
                Check.dueIllegal("lower at the next one of " + i, x, () -> x.setCurve(point, next, next + 39));
                Check.dueIllegal("upper at the next one of " + i, x, () -> x.setCurve(point, next - 1, next + 40));
                Check.due("both just below " + i, x.setCurve(point, next - 1, next + 39), LOWER[point]);
                x.undo();
            }
            if (point > 0) {
                int before = LOWER[point - 1];
                Check.dueIllegal("lower at the one before " + i, x, () -> x.setCurve(point, before, before + 41));
                Check.dueIllegal("upper at the one before " + i, x, () -> x.setCurve(point, before + 1, before + 40));
                Check.due("both just above " + i, x.setCurve(point, before + 1, before + 41), LOWER[point]);
                Check.due("lower", x.curve(point, false), before + 1);
                Check.due("upper", x.curve(point, true), before + 41);
            }
        }
    }

    /** "lower: 2000 to 5000" and "upper: lower to 5000" */
    private static void curveRanges() {
        ChargeEstimator x = new ChargeEstimator();
        Check.due("the least", x.setCurve(0, 2000, 2000), 3000);
        Check.due("the greatest", x.setCurve(10, 5000, 5000), 4100);
        Check.dueIllegal("lower 1999", x, () -> x.setCurve(0, 1999, 2000));
        Check.dueIllegal("lower and upper 1999", x, () -> x.setCurve(0, 1999, 1999));
        Check.dueIllegal("upper 5001", x, () -> x.setCurve(10, 5000, 5001));
        Check.dueIllegal("lower and upper 5001", x, () -> x.setCurve(10, 5001, 5001));
        Check.due("upper at lower", x.setCurve(5, 3601, 3601), 3600);
        Check.dueIllegal("upper below lower", x, () -> x.setCurve(5, 3602, 3601));
        for (int e : EXTREMES) {
            Check.dueIllegal("lower " + e, x, () -> x.setCurve(5, e, 3640));
            Check.dueIllegal("upper " + e, x, () -> x.setCurve(5, 3600, e));
            Check.dueIllegal("both " + e, x, () -> x.setCurve(5, e, e));
        }
        Check.due("the same again", x.setCurve(5, 3601, 3601), 3601);
        Check.due("is saved, too", x.undo(), 3);
    }

    /** "Throws IndexOutOfBoundsException if there is no such point", and that first */
    private static void curve() {
        ChargeEstimator x = new ChargeEstimator();
        for (int point : new int[] {-1, 11, 12, -11, Integer.MIN_VALUE, Integer.MAX_VALUE}) {
            Check.dueIndex("setCurve(" + point + ", ..)", x, () -> x.setCurve(point, 3600, 3640));
            Check.dueIndex("setCurve(" + point + ", ..) with wrong voltages", x, () -> x.setCurve(point, 0, -1));
            Check.dueIndex("curve(" + point + ", true)", x, () -> x.curve(point, true));
            Check.dueIndex("curve(" + point + ", false)", x, () -> x.curve(point, false));
        }
    }

    // ---- promises 7 to 9

    private static final int[][] WRONG_MEASUREMENTS = {{-50001, 3600, 1}, {50001, 3600, 1}, {0, -1, 1}, {0, 6001, 1}, {0, 3600, 0},
        {0, 3600, 601}, {0, 3600, -1}, {Integer.MIN_VALUE, 3600, 1}, {Integer.MAX_VALUE, 3600, 1}, {0, Integer.MIN_VALUE, 1},
        {0, Integer.MAX_VALUE, 1}, {0, 3600, Integer.MIN_VALUE}, {0, 3600, Integer.MAX_VALUE}};

    private static void measure() {
        ChargeEstimator x = new ChargeEstimator();
        for (int[] w : WRONG_MEASUREMENTS) {
            Check.dueIllegal("measure " + Arrays.toString(w), x, () -> x.measure(w[0], w[1], w[2]));
        }
        int[][] right = {{-50000, 0, 1}, {50000, 6000, 600}, {-50000, 6000, 600}, {50000, 0, 1}};
        for (int[] r : right) {
            x.begin(2000, 5000);
            x.measure(r[0], r[1], r[2]);
            Check.due("measure " + Arrays.toString(r), x.status(5), r[2]);
        }
        kindsOfOne();
    }

    /** "Returns 1 if there was a rest anchor, plus 2 for a full anchor, plus 4 for an empty anchor." */
    private static void kindsOfOne() {
        ChargeEstimator x = exact(2000, 5000);
        x.set(6, 1);
        x.set(8, 2000);
        x.set(10, 4000);
        Check.due("none", x.measure(1000, 3600, 1), 0);
        Check.due("rest", x.measure(0, 3600, 59), 1);
        Check.due("full", x.measure(0, 3600, 1), 2);
        Check.due("rest and empty", restAndEmpty(x), 5);
        Check.due("empty", emptyAlone(x), 4);
        x.measure(1000, 3600, 1);
        Check.due("rest and full", x.measure(0, 3600, 60), 3);
        Check.due("rest comes first", x.anchor(x.anchors() - 2, 0), 0);
        Check.due("full comes second", x.anchor(x.anchors() - 1, 0), 1);
        Check.due("the second one does not learn from the first", x.status(4), 0);
    }

    private static int restAndEmpty(ChargeEstimator x) {
        x.measure(1000, 3600, 1);
        return x.measure(-1, 3600, 1);
    }

    private static int emptyAlone(ChargeEstimator x) {
        x.measure(1000, 3600, 1);
        return x.measure(-1000, 3600, 1);
    }

    private static void repeat() {
        ChargeEstimator x = new ChargeEstimator();
        for (int[] w : WRONG_MEASUREMENTS) {
            Check.dueIllegal("repeat " + Arrays.toString(w), x, () -> x.repeat(w[0], w[1], w[2], 1));
            Check.dueIllegal("repeat of none " + Arrays.toString(w), x, () -> x.repeat(w[0], w[1], w[2], 0));
        }
        for (int count : new int[] {-1, 501, Integer.MIN_VALUE, Integer.MAX_VALUE}) {
            Check.dueIllegal("repeat count " + count, x, () -> x.repeat(0, 3600, 1, count));
        }
        long before = x.digest();
        Check.due("none", x.repeat(-1, 0, 600, 0), 0);
        x.undo();
        Check.due("none changes nothing", x.digest(), before);
        Check.due("the greatest count", x.repeat(0, 4200, 600, 500), 2);
        Check.due("all of them", x.status(5), 300000);
        Check.due("saved once", x.undo(), 0);
        Check.due("undone at once", x.status(5), 0);
        Check.due("the number of anchors, not the sum of their kinds", x.repeat(-1, 2900, 600, 4), 2);
    }

    private static final int[][] WRONG_MODELS = {{-50001, 1, 0, 1}, {50001, 1, 0, 1}, {0, 0, 0, 1}, {0, 601, 0, 1}, {0, 1, -1, 1},
        {0, 1, 1001, 1}, {0, 1, 0, -1}, {0, 1, 0, 501}, {Integer.MIN_VALUE, 1, 0, 1}, {Integer.MAX_VALUE, 1, 0, 1},
        {0, Integer.MIN_VALUE, 0, 1}, {0, Integer.MAX_VALUE, 0, 1}, {0, 1, Integer.MIN_VALUE, 1}, {0, 1, Integer.MAX_VALUE, 1},
        {0, 1, 0, Integer.MIN_VALUE}, {0, 1, 0, Integer.MAX_VALUE}, {50001, 1, 0, 0}, {0, 0, 0, 0}, {0, 1, 1001, 0}};

    private static void simulate() {
        ChargeEstimator x = new ChargeEstimator();
        for (int[] w : WRONG_MODELS) {
            Check.dueIllegal("simulate " + Arrays.toString(w), x, () -> x.simulate(w[0], w[1], w[2], w[3]));
        }
        long before = x.digest();
        Check.due("none", x.simulate(-50000, 600, 1000, 0), 0);
        x.undo();
        Check.due("none changes nothing", x.digest(), before);
        Check.due("the greatest count", x.simulate(0, 600, 0, 500), 1);
        Check.due("all of them", x.status(5), 300000);
        Check.due("saved once", x.undo(), 0);
        modelVoltageEnds();
        stateBeforeTheMeasurement();
    }

    /** "but at least 0 and at most 6000": the model stands at 3600, and the drop is the current at 1000 milliohms. */
    private static void modelVoltageEnds() {
        int[][] due = {{-3599, 1}, {-3600, 0}, {-3601, 0}, {-50000, 0}, {2399, 5999}, {2400, 6000}, {2401, 6000}, {50000, 6000}};
        for (int[] d : due) {
            ChargeEstimator x = exact(2000, 5000);
            x.set(5, 0);
            x.simulate(d[0], 1, 1000, 1);
            x.measure(0, d[1], 7);
            Check.due("the voltage at " + d[0], x.status(0), 7);
        }
    }

    /** "where s and h are the state of charge of q and the hysteresis state before the measurement" */
    private static void stateBeforeTheMeasurement() {
        ChargeEstimator x = exact(100, 0);
        x.set(5, 0);
        x.simulate(36000, 10, 0, 1);
        x.measure(0, 3000, 7);
        Check.due("before it, the battery is empty", x.status(0), 7);
        x.simulate(0, 1, 0, 1);
        x.measure(0, 4140, 7);
        Check.due("after it, it is full, on the upper branch", x.status(0), 7);
        ChargeEstimator y = exact(100, 5000);
        y.set(5, 0);
        y.measure(35999, 3600, 1);
        y.simulate(-36000, 1, 0, 1);
        // s is 215999 of 360000, so 5999; L is 3649, and U - L is 40, of which 999 thousandths are 39.
        y.measure(0, 3688, 7);
        Check.due("h is from before it, too", y.status(0), 7);
    }

    // ---- promises 10 to 12

    private static void charges() {
        ChargeEstimator x = new ChargeEstimator();
        for (int what : new int[] {-1, 7, -7, Integer.MIN_VALUE, Integer.MAX_VALUE}) {
            Check.dueIllegal("charge(" + what + ")", x, () -> x.charge(what));
        }
        for (int what : new int[] {-1, 3, -3, Integer.MIN_VALUE, Integer.MAX_VALUE}) {
            Check.dueIllegal("soc(" + what + ")", x, () -> x.soc(what));
        }
        for (int what : new int[] {-1, 6, -6, Integer.MIN_VALUE, Integer.MAX_VALUE}) {
            Check.dueIllegal("status(" + what + ")", x, () -> x.status(what));
        }
        socEdges();
    }

    /** "Returns that charge * 10000 / C." */
    private static void socEdges() {
        long[][] due = {{-1, 9999}, {-36, 9999}, {-37, 9998}, {-359963, 1}, {-359964, 1}, {-359965, 0}, {-360000, 0}, {0, 10000}};
        for (long[] d : due) {
            ChargeEstimator x = exact(100, 10000);
            x.measure((int) (d[0] / 600), 3600, 600);
            x.measure((int) (d[0] % 600), 3600, 1);
            for (int what = 0; what < 3; what++) {
                Check.due("soc(" + what + ") after " + d[0], x.soc(what), d[1]);
            }
        }
        ChargeEstimator x = new ChargeEstimator();
        x.begin(20000, 10000);
        Check.due("soc of the greatest charge", x.soc(0), 10000);
        x.begin(20000, 9999);
        Check.due("soc of nearly the greatest charge", x.soc(0), 9999);
    }

    // ---- promises 13 to 15

    private static void ratios() {
        for (int capacity : new int[] {100, 2000, 20000}) {
            ChargeEstimator x = exact(capacity, 5000);
            Check.dueThat("no cycles", x.cycles() == 0.0);
            x.measure(1, 3600, 1);
            Check.dueThat("the smallest part of a cycle", x.cycles() == 1.0 / (7200.0 * capacity));
            x.measure(-50000, 3600, 600);
            Check.dueThat("cycles", x.cycles() == 30000001.0 / (7200.0 * capacity));
            Check.due("throughput", x.throughput(), 30000001);
        }
        ChargeEstimator x = exact(2000, 5000);
        x.measure(0, 4200, 60);
        x.measure(-11999, 3600, 600);
        x.measure(-599, 2900, 1);
        Check.dueThat("cycles are of N, not of C", x.cycles() == 7199999.0 / 14400000.0);
        Check.due("health a little below 1", x.healthBits(), Float.floatToIntBits(7199999.0f / 7200000.0f));
        x.measure(18000, 3600, 600);
        x.measure(0, 4200, 60);
        Check.due("health above 1", x.healthBits(), Float.floatToIntBits(8099999.0f / 7200000.0f));
    }

    // ---- promises 16 and 17

    private static void voltages() {
        ChargeEstimator x = new ChargeEstimator();
        for (int soc : new int[] {-1, 10001, Integer.MIN_VALUE, Integer.MAX_VALUE}) {
            Check.dueIllegal("openVoltage(" + soc + ", 0)", x, () -> x.openVoltage(soc, 0));
        }
        for (int voltage : new int[] {-1, 6001, Integer.MIN_VALUE, Integer.MAX_VALUE}) {
            Check.dueIllegal("invert(" + voltage + ", 0)", x, () -> x.invert(voltage, 0));
        }
        for (int h : new int[] {-1, 1001, Integer.MIN_VALUE, Integer.MAX_VALUE}) {
            Check.dueIllegal("openVoltage(5000, " + h + ")", x, () -> x.openVoltage(5000, h));
            Check.dueIllegal("invert(3600, " + h + ")", x, () -> x.invert(3600, h));
        }
        everyStateOfCharge();
    }

    /** The inversion is the smallest state of charge, and 10000 only if no smaller one will do. */
    private static void everyStateOfCharge() {
        ChargeEstimator x = new ChargeEstimator();
        x.setCurve(0, 2000, 2001);
        x.setCurve(10, 5000, 5000);
        x.setCurve(9, 3831, 4900);
        for (int h : new int[] {0, 1, 499, 500, 999, 1000}) {
            for (int soc = 0; soc <= 10000; soc++) {
                int v = x.openVoltage(soc, h);
                int found = x.invert(v, h);
                boolean holds = found <= soc && x.openVoltage(found, h) >= v && (found == 0 || x.openVoltage(found - 1, h) < v);
                Check.dueThat("invert(" + v + ", " + h + ") = " + found, holds);
            }
        }
    }

    // ---- promises 18 and 19

    private static void log() {
        ChargeEstimator x = new ChargeEstimator();
        for (int anchor : new int[] {-1, 0, 1, 39, 40, Integer.MIN_VALUE, Integer.MAX_VALUE}) {
            Check.dueIndex("no anchor " + anchor, x, () -> x.anchor(anchor, 0));
            Check.dueIndex("no anchor " + anchor + ", and a wrong part", x, () -> x.anchor(anchor, 4));
        }
        x.measure(-1, 2900, 1);
        for (int anchor : new int[] {-1, 1, 2, 40, Integer.MIN_VALUE, Integer.MAX_VALUE}) {
            Check.dueIndex("no anchor " + anchor + " of one", x, () -> x.anchor(anchor, 0));
        }
        for (int what : new int[] {-1, 4, Integer.MIN_VALUE, Integer.MAX_VALUE}) {
            Check.dueIllegal("anchor(0, " + what + ")", x, () -> x.anchor(0, what));
        }
        Check.dueAnchor("the one", x, 0, 2, 0, 1, 7200000);
        x.undo();
        Check.dueIndex("an undone one", x, () -> x.anchor(0, 0));
    }

    // ---- promise 20

    private static void boundAfter() {
        ChargeEstimator x = new ChargeEstimator();
        x.begin(20000, 5000);
        for (int current : new int[] {-50001, 50001, Integer.MIN_VALUE, Integer.MAX_VALUE}) {
            Check.dueIllegal("boundAfter(" + current + ", 1, ..)", x, () -> x.boundAfter(current, 1, true));
            Check.dueIllegal("boundAfter(" + current + ", 1, ..)", x, () -> x.boundAfter(current, 1, false));
        }
        for (int seconds : new int[] {-1, 1000001, Integer.MIN_VALUE, Integer.MAX_VALUE}) {
            Check.dueIllegal("boundAfter(1, " + seconds + ", ..)", x, () -> x.boundAfter(1, seconds, true));
            Check.dueIllegal("boundAfter(1, " + seconds + ", ..)", x, () -> x.boundAfter(1, seconds, false));
        }
        for (int current : new int[] {-50000, 0, 50000}) {
            Check.due("no time, lo", x.boundAfter(current, 0, false), 36000000);
            Check.due("no time, hi", x.boundAfter(current, 0, true), 36000000);
        }
        longerThanAMeasurement(x);
        boundAfterEnds();
    }

    /** "as by step 1 of a single measurement of that duration. (The duration may be longer ..)" */
    private static void longerThanAMeasurement(ChargeEstimator x) {
        // 601 seconds: 601 * 995 / 1000 is 597, the drift is 300 + 2.
        Check.due("601 seconds, lo", x.boundAfter(1, 601, false), 36000000 + 597 - 302);
        Check.due("601 seconds, hi", x.boundAfter(1, 601, true), 36000000 + 597 + 302);
        // The drift is 500000 + 5000, the charge 995000 of 1000000.
        Check.due("1000000 seconds, lo", x.boundAfter(1, 1000000, false), 36000000 + 995000 - 500000 - 4975);
        Check.due("1000000 seconds, hi", x.boundAfter(1, 1000000, true), 36000000 + 995000 + 500000 + 4975);
        Check.due("1000000 seconds below 0, lo", x.boundAfter(-1, 1000000, false), 36000000 - 1000000 - 500000 - 5000);
        Check.due("1000000 seconds below 0, hi", x.boundAfter(-1, 1000000, true), 36000000 - 1000000 + 500000 + 5000);
    }

    private static void boundAfterEnds() {
        ChargeEstimator x = exact(100, 5000);
        Check.due("lo one above 0", x.boundAfter(-1, 179999, false), 1);
        Check.due("lo just at 0", x.boundAfter(-1, 180000, false), 0);
        Check.due("lo stays at 0", x.boundAfter(-1, 180001, false), 0);
        Check.due("hi one below C", x.boundAfter(1, 179999, true), 359999);
        Check.due("hi just at C", x.boundAfter(1, 180000, true), 360000);
        Check.due("hi stays at C", x.boundAfter(1, 180001, true), 360000);
        Check.due("lo at C", x.boundAfter(50000, 1000000, false), 360000);
        Check.due("hi at 0", x.boundAfter(-50000, 1000000, true), 0);
        Check.due("nothing has happened", x.status(5), 0);
        x.set(1, 10000);
        x.set(2, 20000);
        // The greatest charge there can be is 5 * 10^10, its drift 10^9 + 10^7, which lo still goes beyond.
        Check.due("lo at C with the greatest drift", x.boundAfter(50000, 1000000, false), 360000);
        Check.due("lo falls by drift alone", x.boundAfter(0, 17999, false), 10);
        Check.due("lo at 0 by drift alone", x.boundAfter(0, 18000, false), 0);
        Check.due("lo falls, for the drift is more than the charge", x.boundAfter(1, 1000, false), 180000 + 1000 - 10000 - 20);
    }

    // ---- promise 21

    private static void reaches() {
        ChargeEstimator x = exact(100, 5000);
        for (int current : new int[] {0, -50001, 50001, Integer.MIN_VALUE, Integer.MAX_VALUE}) {
            Check.dueIllegal("reaches(" + current + ")", x, () -> x.reaches(current));
        }
        Check.due("reaches(-1)", x.reaches(-1), 180000);
        Check.due("reaches(1)", x.reaches(1), 180000);
        Check.due("reaches(-50000)", x.reaches(-50000), 4);
        Check.due("reaches(50000)", x.reaches(50000), 4);
        x.begin(100, 0);
        Check.due("lo has reached 0", x.reaches(-1), 0);
        Check.due("lo has reached 0 for any current", x.reaches(-50000), 0);
        Check.due("hi has all the way to go", x.reaches(50000), 8);
        x.begin(100, 10000);
        Check.due("hi has reached C", x.reaches(1), 0);
        Check.due("hi has reached C for any current", x.reaches(50000), 0);
        Check.due("lo has all the way to go", x.reaches(-50000), 8);
        lastSecond();
        reachesByDrift();
    }

    /** "NONE if 1000000 seconds are not enough" */
    private static void lastSecond() {
        ChargeEstimator x = exact(20000, 5000);
        Check.due("36 in 1000000 seconds", x.reaches(36), 1000000);
        Check.due("-36 in 1000000 seconds", x.reaches(-36), 1000000);
        Check.due("35 is not enough", x.reaches(35), ChargeEstimator.NONE);
        Check.due("-35 is not enough", x.reaches(-35), ChargeEstimator.NONE);
        x.measure(-1, 3600, 1);
        Check.due("one more to go up", x.reaches(36), ChargeEstimator.NONE);
        Check.due("one less to go down", x.reaches(-36), 1000000);
        x.measure(36, 3600, 1);
        Check.due("35 above the middle: down", x.reaches(-36), ChargeEstimator.NONE);
        Check.due("35 above the middle: up", x.reaches(36), 1000000);
        x.measure(1, 3600, 1);
        Check.due("36 above the middle: up", x.reaches(36), 999999);
    }

    private static void reachesByDrift() {
        ChargeEstimator x = exact(100, 5000);
        x.set(1, 10000);
        Check.due("1 a second, and 10 by drift, up", x.reaches(1), 16364);
        Check.due("1 a second, and 10 by drift, down", x.reaches(-1), 16364);
        Check.due("hi, not lo, goes up", x.boundAfter(1, 16364, false), 180000 + 16364 - 163640);
    }

    // ---- promise 22

    private static void lasts() {
        ChargeEstimator x = exact(100, 5000);
        for (int current : new int[] {0, 1, -50001, 50000, Integer.MIN_VALUE, Integer.MAX_VALUE}) {
            Check.dueIllegal("lasts(" + current + ", 0)", x, () -> x.lasts(current, 0));
        }
        for (int reserve : new int[] {-1, 10001, Integer.MIN_VALUE, Integer.MAX_VALUE}) {
            Check.dueIllegal("lasts(-1, " + reserve + ")", x, () -> x.lasts(-1, reserve));
        }
        Check.due("lasts(-1, 5000)", x.lasts(-1, 5000), 0);
        Check.due("lasts(-1, 5001)", x.lasts(-1, 5001), ChargeEstimator.NONE);
        Check.due("lasts(-1, 10000)", x.lasts(-1, 10000), ChargeEstimator.NONE);
        Check.due("lasts(-1, 4999)", x.lasts(-1, 4999), 36);
        Check.due("lasts(-36, 4999)", x.lasts(-36, 4999), 1);
        Check.due("lasts(-37, 4999)", x.lasts(-37, 4999), 0);
        Check.due("lasts(-50000, 1)", x.lasts(-50000, 1), 3);
        Check.due("nothing is kept", x.lasts(-50000, 0), 1000000);
        x.begin(100, 0);
        Check.due("nothing is left, and nothing is kept", x.lasts(-50000, 0), 1000000);
        Check.due("nothing is left", x.lasts(-50000, 1), ChargeEstimator.NONE);
        x.begin(100, 10000);
        Check.due("all is kept", x.lasts(-1, 10000), 0);
        x.begin(100, ChargeEstimator.NONE);
        Check.due("it is lo that counts, not q", x.lasts(-1, 1), ChargeEstimator.NONE);
        greatestTime();
    }

    /** "the greatest time, up to 1000000" */
    private static void greatestTime() {
        ChargeEstimator x = exact(20000, 10000);
        Check.due("just the greatest time", x.lasts(-36, 5000), 1000000);
        Check.due("longer than the greatest time", x.lasts(-35, 5000), 1000000);
        Check.due("a second less", x.lasts(-36, 5001), 999800);
        x.measure(-1, 3600, 1);
        Check.due("one less", x.lasts(-36, 5000), 999999);
        ChargeEstimator y = exact(101, 10000);
        // 363600 * 3333 / 10000 is 121187 and a part, so 242413 may go.
        Check.due("the charge that is kept is rounded down", y.lasts(-1, 3333), 242413);
    }

    // ---- promise 23

    private static void wouldAnchor() {
        ChargeEstimator x = exact(2000, 5000);
        for (int[] w : WRONG_MODELS) {
            Check.dueIllegal("wouldAnchor " + Arrays.toString(w), x, () -> x.wouldAnchor(w[0], w[1], w[2], w[3]));
        }
        Check.due("none", x.wouldAnchor(-50000, 600, 1000, 0), 0);
        Check.due("the greatest count", x.wouldAnchor(0, 600, 0, 500), 1);
        Check.due("a kind that comes twice is told once", emptyTwice(x), 4);
        Check.due("a measurement too few", x.wouldAnchor(0, 600, 0, 3), 0);
        Check.due("just enough", x.wouldAnchor(0, 600, 0, 4), 1);
        wouldAnchorIsAsSimulate();
        wouldAnchorChangesNothing();
    }

    private static int emptyTwice(ChargeEstimator x) {
        x.set(10, 4000);
        int kinds = x.wouldAnchor(-1000, 600, 0, 500);
        x.set(10, 2900);
        return kinds;
    }

    private static void wouldAnchorIsAsSimulate() {
        for (int current = -6000; current <= 6000; current += 750) {
            for (int count = 0; count <= 60; count += 12) {
                ChargeEstimator x = new ChargeEstimator();
                x.begin(1000, 5000);
                x.set(8, 4100);
                int told = x.wouldAnchor(current, 60, 40, count);
                x.simulate(current, 60, 40, count);
                int kinds = 0;
                for (int i = 0; i < x.anchors(); i++) {
                    kinds |= 1 << x.anchor(i, 0);
                }
                Check.due("kinds of " + count + " times " + current, told, kinds);
            }
        }
    }

    /** "The state does not change.", what no call shows at once included */
    private static void wouldAnchorChangesNothing() {
        ChargeEstimator x = exact(2000, 5000);
        x.set(6, 10);
        x.set(8, 3500);
        x.measure(-1000, 3600, 5);
        long before = x.digest();
        Check.due("rest and full", x.wouldAnchor(0, 60, 0, 10), 3);
        Check.due("empty", x.wouldAnchor(-50000, 600, 1000, 10), 4);
        Check.due("digest", x.digest(), before);
        Check.due("not empty before", x.measure(-1000, 2900, 1), 4);
        Check.due("empty before", x.measure(-1000, 2900, 1), 0);
        x.wouldAnchor(1000, 1, 0, 1);
        Check.due("still empty before", x.measure(-1000, 2900, 1), 0);
        Check.due("nothing is saved", x.undo(), 3);
    }

    // ---- promises 24 and 25

    private static void text() {
        ChargeEstimator x = new ChargeEstimator();
        for (int value : new int[] {-1, 128, 255, 256, -128, Integer.MIN_VALUE, Integer.MAX_VALUE}) {
            Check.dueIllegal("append(" + value + ")", x, () -> x.append(value));
        }
        Check.due("an empty text is cleared", x.clearText(), 0);
        for (int i = 1; i <= 120; i++) {
            Check.due("append", x.append(i % 2 == 0 ? 0 : 127), i);
        }
        Check.dueState("the 121st byte", x, () -> x.append(48));
        Check.dueState("the 121st byte, of 0", x, () -> x.append(0));
        Check.dueState("the 121st byte, of 127", x, () -> x.append(127));
        Check.dueIllegal("the range comes first: -1", x, () -> x.append(-1));
        Check.dueIllegal("the range comes first: 128", x, () -> x.append(128));
        Check.due("a full text is cleared", x.clearText(), 120);
        Check.due("it is empty then", x.clearText(), 0);
        Check.due("it takes bytes again", x.append('1'), 1);
        Check.due("the old ones are gone", x.replay(), -11);
    }

    // ---- promise 26

    private static int replayOf(String text) {
        ChargeEstimator x = new ChargeEstimator();
        Check.write(x, text);
        return x.replay();
    }

    /** Each byte, wherever a byte can stand: at what begins a number, behind the sign, and behind 1 to 5 digits. */
    private static void everyByte() {
        String[] fields = {"", "1,", "1,3600,", "1,3600,5;", "1,3600,5;1,", "1,3600,5;1,3600,"};
        String[] begun = {"", "-", "0", "-0", "00", "-00", "0000", "-0000", "00000", "-00000"};
        for (int f = 0; f < fields.length; f++) {
            for (String b : begun) {
                String before = fields[f] + b;
                int digits = b.startsWith("-") ? b.length() - 1 : b.length();
                for (int value = 0; value <= 127; value++) {
                    boolean stands = value >= '0' && value <= '9' && digits < 5
                        || value == '-' && b.isEmpty()
                        || value == (f % 3 == 2 ? ';' : ',') && digits > 0;
                    boolean whole = stands && value == ';';
                    int due = stands ? -10 - before.length() - 1 : -10 - before.length();
                    String text = before + (char) value;
                    if (!whole) {
                        Check.due("replay() of \"" + text + "\"", replayOf(text), due);
                    } else {
                        Check.due("replay() of \"" + text + "\"", replayOf(text), -1000 - f / 3);
                    }
                }
            }
        }
    }

    private static void replay() {
        fullTexts();
        rangesOfATextFirst();
        replayChangesNothing();
        Check.due("a syntax error comes before a range", replayOf("99999,1,1;1,1;"), -10 - 13);
        Check.due("a text that ends too early comes before a range", replayOf("99999,1,1;1,1,1"), -10 - 15);
        Check.due("a sixth digit, of zeros", replayOf("000000,1,1;"), -15);
        Check.due("a sixth digit behind a sign", replayOf("-000000,1,1;"), -16);
        Check.due("five digits of zeros", replayOf("00001,03600,00001;"), 1);
        Check.due("an empty text has no measurements", replayOf(""), 0);
        ChargeEstimator x = new ChargeEstimator();
        x.replay();
        Check.due("an empty text is undoable", x.undo(), 0);
        replayAgain();
    }

    /** A text that has been read is read anew by the next call. */
    private static void replayAgain() {
        ChargeEstimator x = new ChargeEstimator();
        Check.write(x, "-12345");
        Check.due("ends too early", x.replay(), -16);
        Check.due("ends too early, again", x.replay(), -16);
        Check.write(x, ",3600,60;");
        Check.due("ends in time", x.replay(), 1);
        Check.due("its duration", x.status(5), 60);
        Check.due("its charge", x.charge(6), -740700);
        Check.write(x, "2,3,4;x");
        Check.due("a sign that cannot stand", x.replay(), -31);
        x.clearText();
        Check.write(x, "0,3600,59;-1,3600,598;");
        Check.due("another text", x.replay(), 2);
        Check.due("its durations", x.status(5), 60 + 59 + 598);
        Check.due("its charges", x.charge(6), -740700 - 598);
    }

    /** Texts of 120 bytes */
    private static void fullTexts() {
        StringBuilder nineteen = new StringBuilder();
        for (int i = 0; i < 19; i++) {
            nineteen.append("0,0,1;");
        }
        Check.due("20 measurements", replayOf(nineteen + "0,0,1;"), 20);
        Check.due("the last is out of range", replayOf(nineteen + "0,0,0;"), -1019);
        Check.due("the last does not end", replayOf(nineteen + "0,0,11"), -130);
        Check.due("the last byte cannot stand there", replayOf(nineteen + "0,0,1,"), -129);
        Check.due("one byte too few", replayOf(nineteen + "0,0,1"), -129);
        Check.due("signs alone", replayOf("-".repeat(120)), -11);
        Check.due("digits alone", replayOf("1".repeat(120)), -15);
        Check.due("semicolons alone", replayOf(";".repeat(120)), -10);
        Check.due("commas and digits alone", replayOf("1,".repeat(60)), -15);
        Check.due("six of the longest", replayOf("-10000,05000,00600;".repeat(6)), 6);
    }

    /** "-1000 minus the index of the first measurement (from 0) with a number out of range" */
    private static void rangesOfATextFirst() {
        String[] wrong = {"50001,3600,1;", "-50001,3600,1;", "0,6001,1;", "0,-1,1;", "0,-00001,1;", "0,3600,0;", "0,3600,601;",
            "0,3600,-1;", "99999,3600,1;", "-99999,3600,1;", "0,99999,1;", "0,3600,99999;", "0,3600,-0;"};
        for (String w : wrong) {
            Check.due(w, replayOf(w), -1000);
            Check.due("second, " + w, replayOf("0,3600,1;" + w), -1001);
            Check.due("first and third, " + w, replayOf(w + "0,3600,1;" + w), -1000);
            Check.due("third and fourth, " + w, replayOf("0,3600,1;0,3600,1;" + w + w), -1002);
        }
        String[] right = {"50000,3600,1;", "-50000,3600,1;", "0,6000,1;", "0,0,1;", "0,-0,1;", "-0,3600,1;", "0,3600,600;"};
        for (String r : right) {
            Check.due(r, replayOf(r), 1);
        }
    }

    /** "nothing is changed", not even by the measurements before the wrong one; and "The text stays as it is." */
    private static void replayChangesNothing() {
        String[] texts = {"-1,2900,1;0,4200,60;0,4200,0;", "-1,2900,1;0,4200,60;0,4200", "-1,2900,1;0,4200,60;;"};
        for (String text : texts) {
            ChargeEstimator x = new ChargeEstimator();
            Check.write(x, text);
            long before = x.digest();
            Check.dueThat("refused", x.replay() < 0);
            Check.due("digest", x.digest(), before);
            Check.due("no anchors", x.anchors(), 0);
            Check.dueState("nothing is saved", x, () -> x.undo());
            Check.due("not empty before", x.measure(-1, 2900, 1), 4);
            Check.due("the text stays", x.clearText(), text.length());
        }
        ChargeEstimator x = new ChargeEstimator();
        Check.write(x, "-1,2900,1;");
        Check.due("treated", x.replay(), 1);
        Check.due("anchors", x.anchors(), 1);
        Check.due("treated again, but it was empty before", x.replay(), 1);
        Check.due("anchors", x.anchors(), 1);
        Check.due("saved twice", x.undo(), 1);
        Check.due("the text stays", x.clearText(), 10);
    }

    // ---- promise 27

    private static void undo() {
        atMostFour();
        everythingIsSaved();
        refusedCallsSaveNothing();
        questionsSaveNothing();
        refusedCallsChangeNothingUnseen();
    }

    /** "at most 4 states are saved, and the oldest is dropped first" */
    private static void atMostFour() {
        ChargeEstimator x = new ChargeEstimator();
        for (int i = 1; i <= 4; i++) {
            x.measure(0, 3600, i);
        }
        for (int i = 3; i >= 0; i--) {
            Check.due("four of four", x.undo(), i);
        }
        Check.due("back at the start", x.status(5), 0);
        Check.dueState("none left", x, () -> x.undo());
        for (int i = 1; i <= 5; i++) {
            x.measure(0, 3600, 1);
        }
        for (int i = 3; i >= 0; i--) {
            Check.due("four of five", x.undo(), i);
            Check.due("the time before", x.status(5), i + 1);
        }
        Check.dueState("the first is dropped", x, () -> x.undo());
        x.measure(0, 3600, 1);
        x.measure(0, 3600, 1);
        x.undo();
        x.measure(0, 3600, 7);
        Check.due("undo is not undoable", x.undo(), 1);
        Check.due("time", x.status(5), 2);
    }

    /** "The saved state contains everything except the measurement text." */
    private static void everythingIsSaved() {
        ChargeEstimator x = busy();
        long[] before = parts(x);
        x.begin(777, 3000);
        Check.due("another anchor in the place of the first", x.measure(-1, 2900, 1), 4);
        Check.due("and one in that of the second", x.measure(0, 4200, 60), 2);
        x.undo();
        x.undo();
        x.undo();
        Check.due("all parts after begin()", Arrays.toString(parts(x)), Arrays.toString(before));
        for (int i = 0; i < 12; i++) {
            x.set(i, x.value(i) == 4000 ? 3999 : x.value(i) + (i == 0 ? 5 : 1));
            Check.dueThat("changed by set(" + i + ", ..)", !Arrays.equals(parts(x), before));
            x.undo();
            Check.due("all parts after set(" + i + ", ..)", Arrays.toString(parts(x)), Arrays.toString(before));
        }
        for (int i = 0; i <= 10; i++) {
            x.setCurve(i, x.curve(i, false) - 1, x.curve(i, true) + 1);
            x.undo();
            Check.due("all parts after setCurve(" + i + ", ..)", Arrays.toString(parts(x)), Arrays.toString(before));
        }
        x.repeat(0, 4200, 60, 9);
        x.undo();
        Check.due("all parts after repeat()", Arrays.toString(parts(x)), Arrays.toString(before));
        x.clearText();
        x.append('1');
        x.set(0, 900);
        x.append('2');
        x.undo();
        Check.due("the text is as long as before undo()", x.replay(), -12);
    }

    private static long[] parts(ChargeEstimator x) {
        long[] parts = new long[210];
        int n = 0;
        for (int i = 0; i < 12; i++) {
            parts[n++] = x.value(i);
        }
        for (int i = 0; i <= 10; i++) {
            parts[n++] = x.curve(i, false);
            parts[n++] = x.curve(i, true);
        }
        for (int i = 0; i <= 6; i++) {
            parts[n++] = x.charge(i);
        }
        for (int i = 0; i <= 5; i++) {
            parts[n++] = x.status(i);
        }
        parts[n++] = x.throughput();
        parts[n++] = x.anchors();
        for (int i = 0; i < x.anchors(); i++) {
            for (int what = 0; what <= 3; what++) {
                parts[n++] = x.anchor(i, what);
            }
        }
        return Arrays.copyOf(parts, n);
    }

    /** "Each successful call": a refused one saves nothing. */
    private static void refusedCallsSaveNothing() {
        ChargeEstimator x = new ChargeEstimator();
        Check.dueIllegal("begin", x, () -> x.begin(99, 0));
        Check.dueIllegal("set", x, () -> x.set(0, 0));
        Check.dueIndex("setCurve", x, () -> x.setCurve(11, 0, 0));
        Check.dueIllegal("setCurve", x, () -> x.setCurve(5, 3700, 3700));
        Check.dueIllegal("measure", x, () -> x.measure(0, 0, 0));
        Check.dueIllegal("repeat", x, () -> x.repeat(0, 0, 1, 501));
        Check.dueIllegal("simulate", x, () -> x.simulate(0, 1, 0, 501));
        x.append(';');
        Check.due("replay", x.replay(), -10);
        Check.dueState("nothing is saved", x, () -> x.undo());
    }

    private static void questionsSaveNothing() {
        ChargeEstimator x = new ChargeEstimator();
        x.value(0);
        x.curve(0, true);
        x.charge(0);
        x.soc(0);
        x.status(0);
        x.throughput();
        x.cycles();
        x.healthBits();
        x.openVoltage(0, 0);
        x.invert(0, 0);
        x.anchors();
        x.boundAfter(1, 1, true);
        x.reaches(1);
        x.lasts(-1, 0);
        x.wouldAnchor(0, 600, 0, 9);
        x.append('1');
        x.clearText();
        x.digest();
        Check.dueState("nothing is saved", x, () -> x.undo());
        Check.due("nothing is changed", x.digest(), new ChargeEstimator().digest());
    }

    /** "A call that throws an exception changes nothing", nor what no call shows at once. */
    private static void refusedCallsChangeNothingUnseen() {
        ChargeEstimator x = busy();
        ChargeEstimator twin = busy();
        refuseEverything(x);
        Check.due("the same text", x.replay(), twin.replay());
        Check.due("the same measurement", x.measure(0, 3602, 1), twin.measure(0, 3602, 1));
        Check.due("the same rest", x.status(0), twin.status(0));
        for (int i = 0; i < 4; i++) {
            Check.due("the same saved states", x.undo(), twin.undo());
            Check.due("the same digest", x.digest(), twin.digest());
        }
        refuseEverything(x);
        Check.dueState("none is left", x, () -> x.undo());
        Check.due("as empty as before", x.measure(-1, 2900, 1), twin.measure(-1, 2900, 1));
    }

    private static ChargeEstimator busy() {
        ChargeEstimator x = new ChargeEstimator();
        x.set(3, 20);
        x.setCurve(4, 3555, 3600);
        x.measure(0, 4200, 60);
        x.measure(-2000, 2900, 600);
        x.repeat(-10, 2900, 60, 2);
        x.simulate(5, 60, 10, 2);
        Check.write(x, "0,3600,1;");
        return x;
    }

    private static void refuseEverything(ChargeEstimator x) {
        Check.dueIllegal("begin", x, () -> x.begin(99, 5000));
        Check.dueIllegal("begin", x, () -> x.begin(100, 10001));
        Check.dueIllegal("set", x, () -> x.set(3, 51));
        Check.dueIllegal("set", x, () -> x.set(12, 1));
        Check.dueIllegal("value", x, () -> x.value(12));
        Check.dueIndex("setCurve", x, () -> x.setCurve(11, 3000, 3000));
        Check.dueIllegal("setCurve", x, () -> x.setCurve(4, 5000, 5000));
        Check.dueIndex("curve", x, () -> x.curve(11, true));
        Check.dueIllegal("measure", x, () -> x.measure(-1, 2900, 601));
        Check.dueIllegal("repeat", x, () -> x.repeat(-1, 2900, 600, 501));
        Check.dueIllegal("simulate", x, () -> x.simulate(-1, 600, 1001, 500));
        Check.dueIllegal("charge", x, () -> x.charge(7));
        Check.dueIllegal("soc", x, () -> x.soc(3));
        Check.dueIllegal("status", x, () -> x.status(6));
        Check.dueIllegal("openVoltage", x, () -> x.openVoltage(0, 1001));
        Check.dueIllegal("invert", x, () -> x.invert(0, 1001));
        Check.dueIndex("anchor", x, () -> x.anchor(40, 0));
        Check.dueIllegal("boundAfter", x, () -> x.boundAfter(0, -1, true));
        Check.dueIllegal("reaches", x, () -> x.reaches(0));
        Check.dueIllegal("lasts", x, () -> x.lasts(0, 0));
        Check.dueIllegal("wouldAnchor", x, () -> x.wouldAnchor(0, 0, 0, 0));
        Check.dueIllegal("append", x, () -> x.append(128));
    }

    // ---- promise 28

    /** "Returns the hash, with the overflow of long arithmetic ignored.": here it is taken from the whole number. */
    private static void digest() {
        ChargeEstimator x = new ChargeEstimator();
        java.math.BigInteger h = java.math.BigInteger.valueOf(2999);
        h = join(h, 0);
        for (int i = 0; i <= 11; i++) {
            h = join(h, x.value(i));
        }
        for (int i = 0; i < 22; i++) {
            h = join(h, LOWER[i % 11] + (i < 11 ? 0 : 40));
        }
        long[] charges = {3600000, 0, 7200000, 7200000, 7200000, 0, 0};
        for (long charge : charges) {
            h = join(h, charge);
        }
        // Six of status(), throughput(), the number of anchors, and that of the saved states
        for (int i = 0; i < 9; i++) {
            h = join(h, 0);
        }
        Check.dueThat("the hash overflows", h.bitLength() > 64);
        Check.due("digest of a new object", x.digest(), h.longValue());
        x.append('a');
        Check.due("the length of the text is a part of it", x.digest(), h.add(java.math.BigInteger.valueOf(31).pow(50)).longValue());
        x.clearText();
        x.set(0, 995);
        Check.due("the number of saved states is a part of it", x.digest(), h.add(java.math.BigInteger.ONE).longValue());
    }

    private static java.math.BigInteger join(java.math.BigInteger h, long v) {
        return h.multiply(java.math.BigInteger.valueOf(31)).add(java.math.BigInteger.valueOf(v));
    }
}
