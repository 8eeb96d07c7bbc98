/** Promises 1 to 6: a new object, begin, set, value, setCurve, curve. */
final class SettingsTest {
    private static final int[] LEAST = {900, 0, 0, 1, 0, 0, 1, 0, 2000, 0, 1000, 500};
    private static final int[] MOST = {1000, 10000, 20000, 50, 1000, 100, 10000, 50, 5000, 10000, 4000, 10000};
    private static final int[] INITIAL = {995, 500, 5000, 10, 20, 2, 1800, 5, 4150, 100, 2900, 4000};
    private static final int[] LOWER = {3000, 3300, 3450, 3520, 3560, 3600, 3650, 3730, 3830, 3950, 4100};

    public static void main(String[] args) {
        newObject();
        begin();
        beginRefuses();
        set();
        setNarrowsHysteresis();
        setCurve();
        setCurveRefuses();
        curve();
        Check.end();
    }

    private static void newObject() {
        ChargeEstimator x = new ChargeEstimator();
        Check.due("NONE", ChargeEstimator.NONE, -1);
        Check.dueCharges("new", x, 3600000, 0, 7200000, 7200000, 7200000, 0, 0);
        Check.dueStatus("new", x, 0, 0, 0, 0, 0, 0);
        Check.due("new: throughput", x.throughput(), 0);
        Check.due("new: anchors", x.anchors(), 0);
        Check.due("new: text", x.clearText(), 0);
        Check.dueState("new: undo()", x, () -> x.undo());
        for (int i = 0; i < 12; i++) {
            Check.due("new: value(" + i + ")", x.value(i), INITIAL[i]);
        }
        for (int i = 0; i < 11; i++) {
            Check.due("new: curve(" + i + ", false)", x.curve(i, false), LOWER[i]);
            Check.due("new: curve(" + i + ", true)", x.curve(i, true), LOWER[i] + 40);
        }
    }

    private static void begin() {
        ChargeEstimator x = new ChargeEstimator();
        x.set(0, 950);
        x.setCurve(0, 2500, 2600);
        x.append('7');
        x.measure(-1000, 2900, 100);
        x.measure(1000, 4200, 100);
        x.measure(50, 4200, 60);
        Check.due("begin counts the log", x.begin(100, ChargeEstimator.NONE), 2);
        Check.dueCharges("begin(100, NONE)", x, 180000, 0, 360000, 360000, 360000, 0, 0);
        Check.dueStatus("begin(100, NONE)", x, 0, 0, 0, 0, 0, 0);
        Check.due("begin: throughput", x.throughput(), 0);
        Check.due("begin: anchors", x.anchors(), 0);
        Check.due("begin keeps settings", x.value(0), 950);
        Check.due("begin keeps the lower branch", x.curve(0, false), 2500);
        Check.due("begin keeps the upper branch", x.curve(0, true), 2600);
        Check.due("begin(100, 3333)", x.begin(100, 3333), 0);
        Check.dueCharges("begin(100, 3333)", x, 119988, 119988, 119988, 360000, 360000, 0, 0);
        Check.due("begin(20000, 10000)", x.begin(20000, 10000), 0);
        Check.dueCharges("begin(20000, 10000)", x, 72000000, 72000000, 72000000, 72000000, 72000000, 0, 0);
        Check.due("begin(101, 0)", x.begin(101, 0), 0);
        Check.dueCharges("begin(101, 0)", x, 0, 0, 0, 363600, 363600, 0, 0);
        Check.due("begin is undoable", x.undo(), 3);
        Check.due("undone begin", x.charge(4), 72000000);
        Check.due("begin keeps the text", x.clearText(), 1);
        forgetsTheMeasurementBefore();
    }

    private static void forgetsTheMeasurementBefore() {
        ChargeEstimator x = new ChargeEstimator();
        x.set(6, 1);
        x.measure(0, 3600, 1);
        x.begin(2000, 5000);
        Check.due("no voltage before, after begin", x.measure(0, 3600, 600), 0);
        Check.due("then there is one", x.measure(0, 3600, 1), 1);
        x.begin(2000, 5000);
        Check.due("empty", x.measure(-1, 2900, 1), 4);
        x.begin(2000, 5000);
        Check.due("empty again, after begin", x.measure(-1, 2900, 1), 4);
        x.begin(2000, 10000);
        x.repeat(-7200, 3000, 600, 2);
        Check.due("no anchor before, after begin", x.measure(-1, 2900, 1), 4);
        Check.due("so nothing is learnt", x.status(4), 0);
    }

    private static void beginRefuses() {
        ChargeEstimator x = new ChargeEstimator();
        Check.dueIllegal("begin(99, 0)", x, () -> x.begin(99, 0));
        Check.dueIllegal("begin(20001, 0)", x, () -> x.begin(20001, 0));
        Check.dueIllegal("begin(100, -2)", x, () -> x.begin(100, -2));
        Check.dueIllegal("begin(100, 10001)", x, () -> x.begin(100, 10001));
        Check.dueIllegal("begin of least int", x, () -> x.begin(Integer.MIN_VALUE, Integer.MIN_VALUE));
    }

    private static void set() {
        ChargeEstimator x = new ChargeEstimator();
        for (int i = 0; i < 12; i++) {
            int what = i;
            Check.due("set(" + i + ", least)", x.set(i, LEAST[i]), INITIAL[i]);
            Check.due("value(" + i + ")", x.value(i), LEAST[i]);
            Check.due("set(" + i + ", most)", x.set(i, MOST[i]), LEAST[i]);
            Check.due("value(" + i + ")", x.value(i), MOST[i]);
            Check.dueIllegal("set(" + i + ", least - 1)", x, () -> x.set(what, LEAST[what] - 1));
            Check.dueIllegal("set(" + i + ", most + 1)", x, () -> x.set(what, MOST[what] + 1));
        }
        Check.due("set is undoable", x.undo(), 3);
        Check.due("undone set", x.value(11), LEAST[11]);
        Check.dueIllegal("set(-1, 900)", x, () -> x.set(-1, 900));
        Check.dueIllegal("set(12, 900)", x, () -> x.set(12, 900));
        Check.dueIllegal("value(-1)", x, () -> x.value(-1));
        Check.dueIllegal("value(12)", x, () -> x.value(12));
    }

    private static void setNarrowsHysteresis() {
        ChargeEstimator x = new ChargeEstimator();
        x.measure(2000, 3700, 600);
        Check.due("hq at H", x.charge(5), 720000);
        x.set(3, 20);
        Check.due("hq stays below a wider H", x.charge(5), 720000);
        Check.due("h of a wider H", x.status(2), 500);
        x.set(3, 5);
        Check.due("hq comes down to a narrower H", x.charge(5), 360000);
        Check.due("h of a narrower H", x.status(2), 1000);
        x.undo();
        Check.due("undo brings hq back", x.charge(5), 720000);
    }

    private static void setCurve() {
        ChargeEstimator x = new ChargeEstimator();
        Check.due("setCurve(0, 2000, 3339)", x.setCurve(0, 2000, 3339), 3000);
        Check.due("lower branch", x.curve(0, false), 2000);
        Check.due("upper branch", x.curve(0, true), 3339);
        Check.due("setCurve(10, 3951, 5000)", x.setCurve(10, 3951, 5000), 4100);
        Check.due("setCurve(10, 5000, 5000)", x.setCurve(10, 5000, 5000), 3951);
        Check.due("setCurve(5, 3649, 3689)", x.setCurve(5, 3649, 3689), 3600);
        Check.due("setCurve(5, 3601, 3601)", x.setCurve(5, 3601, 3601), 3649);
        Check.due("setCurve is undoable", x.undo(), 3);
        Check.due("undone setCurve, lower", x.curve(5, false), 3649);
        Check.due("undone setCurve, upper", x.curve(5, true), 3689);
    }

    private static void setCurveRefuses() {
        ChargeEstimator x = new ChargeEstimator();
        Check.dueIndex("setCurve(-1, ..)", x, () -> x.setCurve(-1, 3000, 3000));
        Check.dueIndex("setCurve(11, ..)", x, () -> x.setCurve(11, 3000, 3000));
        Check.dueIndex("setCurve(11, 1, 1)", x, () -> x.setCurve(11, 1, 1));
        Check.dueIllegal("lower 1999", x, () -> x.setCurve(0, 1999, 3000));
        Check.dueIllegal("lower 5001", x, () -> x.setCurve(10, 5001, 5001));
        Check.dueIllegal("upper 5001", x, () -> x.setCurve(10, 4100, 5001));
        Check.dueIllegal("upper below lower", x, () -> x.setCurve(5, 3600, 3599));
        Check.dueIllegal("lower at the next lower", x, () -> x.setCurve(5, 3650, 3660));
        Check.dueIllegal("upper at the next upper", x, () -> x.setCurve(5, 3600, 3690));
        Check.dueIllegal("lower at the previous lower", x, () -> x.setCurve(5, 3560, 3640));
        Check.dueIllegal("upper at the previous upper", x, () -> x.setCurve(5, 3570, 3600));
        Check.dueIllegal("first point at the next", x, () -> x.setCurve(0, 3300, 3300));
        Check.dueIllegal("last point at the previous", x, () -> x.setCurve(10, 3950, 4500));
    }

    private static void curve() {
        ChargeEstimator x = new ChargeEstimator();
        Check.dueIndex("curve(-1, true)", x, () -> x.curve(-1, true));
        Check.dueIndex("curve(11, false)", x, () -> x.curve(11, false));
        Check.dueIndex("curve of least int", x, () -> x.curve(Integer.MIN_VALUE, false));
        Check.dueIndex("curve of most int", x, () -> x.curve(Integer.MAX_VALUE, true));
    }
}
