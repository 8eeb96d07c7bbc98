/** The sentences of the document's "Description" that name an edge, in its order, with a test each. */
final class DescriptionTest {
    public static void main(String[] args) {
        use();
        units();
        settings();
        curves();
        hysteresis();
        inversion();
        counting();
        rest();
        full();
        empty();
        learning();
        bounds();
        log();
        examples();
        Check.end();
    }

    /** An estimator without efficiency losses and drift, so that charges are easy to tell. */
    private static ChargeEstimator exact(int capacity, int charge) {
        ChargeEstimator x = new ChargeEstimator();
        x.set(0, 1000);
        x.set(1, 0);
        x.set(2, 0);
        x.begin(capacity, charge);
        return x;
    }

    // ---- "An object is used for at most 512 calls after it has been made"

    private static void use() {
        mostCharging();
        mostDischarging();
        mostRest();
    }

    private static void mostCharging() {
        ChargeEstimator x = new ChargeEstimator();
        x.begin(20000, 0);
        for (int i = 0; i < 500; i++) {
            x.repeat(50000, 3600, 600, 500);
        }
        Check.dueCharges("charged for long", x, 72000000, 72000000, 72000000, 72000000, 72000000, 7200000, 7462500000000L);
        Check.dueStatus("charged for long", x, 0, 0, 1000, 0, 0, 150000000);
        Check.due("throughput", x.throughput(), 7462500000000L);
        Check.dueThat("cycles", x.cycles() == 7462500000000.0 / 144000000.0);
        Check.due("soc", x.soc(0), 10000);
    }

    private static void mostDischarging() {
        ChargeEstimator x = new ChargeEstimator();
        Check.due("full", x.measure(0, 4200, 60), 2);
        for (int i = 0; i < 500; i++) {
            x.repeat(-50000, 3600, 600, 500);
        }
        Check.dueCharges("discharged for long", x, 0, 0, 0, 7200000, 7200000, 0, -7500000000000L);
        Check.due("throughput", x.throughput(), 7500000000000L);
        Check.due("empty", x.measure(-1, 2900, 1), 4);
        Check.due("so much charge is nothing to learn from", x.status(4), 0);
        Check.due("capacity", x.charge(3), 7200000);
        Check.due("counted", x.charge(6), 0);
        Check.due("the time of the anchor", x.anchor(1, 2), 150000061);
    }

    private static void mostRest() {
        ChargeEstimator x = new ChargeEstimator();
        for (int i = 0; i < 500; i++) {
            x.repeat(0, 4200, 600, 500);
        }
        Check.due("one rest and one full anchor", x.anchors(), 2);
        Check.due("rest counter", x.status(0), 149999400);
        Check.due("full counter", x.status(1), 150000000);
    }

    // ---- Units

    private static void units() {
        roundedDownBelowNought();
        roundedDownAboveNought();
        dropRoundedDown();
    }

    /** "a / b means division rounded down (also for negative a ..)" */
    private static void roundedDownBelowNought() {
        for (int less = 1; less <= 5; less++) {
            ChargeEstimator x = exact(2000, 5000);
            Check.due("full", x.measure(0, 4200, 60), 2);
            x.measure(-11999, 3600, 600);
            Check.due("empty", x.measure(-(600 - less), 2900, 1), 4);
            Check.due("-" + less + " / 4 is rounded down", x.charge(3), 7200000 - (less + 3) / 4);
            Check.due("a learning", x.status(4), 1);
        }
    }

    private static void roundedDownAboveNought() {
        for (int more = 0; more <= 5; more++) {
            ChargeEstimator x = exact(2000, 5000);
            Check.due("full", x.measure(0, 4200, 60), 2);
            x.measure(-11999, 3600, 600);
            Check.due("empty", x.measure(-(600 + more), 2900, 1), 4);
            Check.due(more + " / 4 is rounded down", x.charge(3), 7200000 + more / 4);
            Check.due("a learning, even by nothing", x.status(4), 1);
        }
    }

    /** The voltage of the model battery is 3600, and the empty voltage tells what the drop makes of it. */
    private static void dropRoundedDown() {
        int[][] drops = {{-1, 1, 3599}, {-1000, 1, 3599}, {-1001, 1, 3598}, {-1, 1000, 3599}, {-1, 0, 3600}};
        for (int[] drop : drops) {
            ChargeEstimator x = exact(2000, 5000);
            x.set(10, drop[2] - 1);
            Check.due("not below " + drop[2], x.wouldAnchor(drop[0], 1, drop[1], 1), 0);
            x.set(10, drop[2]);
            Check.due("just " + drop[2], x.wouldAnchor(drop[0], 1, drop[1], 1), 4);
        }
    }

    // ---- Settings

    private static final int[] LEAST = {900, 0, 0, 1, 0, 0, 1, 0, 2000, 0, 1000, 500};
    private static final int[] MOST = {1000, 10000, 20000, 50, 1000, 100, 10000, 50, 5000, 10000, 4000, 10000};
    private static final int[] INITIAL = {995, 500, 5000, 10, 20, 2, 1800, 5, 4150, 100, 2900, 4000};

    /** "0 efficiency in thousandths, 900 to 1000, initially 995; .." and so on for all twelve. */
    private static void settings() {
        for (int i = 0; i < 12; i++) {
            int what = i;
            ChargeEstimator x = new ChargeEstimator();
            Check.due("setting " + i + " initially", x.value(i), INITIAL[i]);
            Check.due("setting " + i + " at its most", x.set(i, MOST[i]), INITIAL[i]);
            Check.due("setting " + i + " at its least", x.set(i, LEAST[i]), MOST[i]);
            Check.dueIllegal("setting " + i + " below its least", x, () -> x.set(what, LEAST[what] - 1));
            Check.dueIllegal("setting " + i + " above its most", x, () -> x.set(what, MOST[what] + 1));
            Check.due("setting " + i + " stays", x.value(i), LEAST[i]);
        }
    }

    // ---- Curves

    private static final int[] LOWER = {3000, 3300, 3450, 3520, 3560, 3600, 3650, 3730, 3830, 3950, 4100};

    private static void curves() {
        wholePoints();
        lastPieces();
        flattestCurves();
        equalBranches();
    }

    /** "each with 11 voltages, for the states of charge 0, 1000, ..., 10000" */
    private static void wholePoints() {
        ChargeEstimator x = new ChargeEstimator();
        for (int i = 0; i <= 10; i++) {
            Check.due("lower branch at " + 1000 * i, x.openVoltage(1000 * i, 0), LOWER[i]);
            Check.due("upper branch at " + 1000 * i, x.openVoltage(1000 * i, 1000), LOWER[i] + 40);
        }
        for (int i = 0; i < 10; i++) {
            int rise = LOWER[i + 1] - LOWER[i];
            Check.due("just above a point", x.openVoltage(1000 * i + 1, 0), LOWER[i]);
            Check.due("just below the next", x.openVoltage(1000 * i + 999, 0), LOWER[i] + rise * 999 / 1000);
        }
    }

    /** "let k = s / 1000, but at most 9" */
    private static void lastPieces() {
        ChargeEstimator x = new ChargeEstimator();
        Check.due("V(8999, 0)", x.openVoltage(8999, 0), 3949);
        Check.due("V(9000, 0)", x.openVoltage(9000, 0), 3950);
        Check.due("V(9001, 0)", x.openVoltage(9001, 0), 3950);
        Check.due("V(9999, 0)", x.openVoltage(9999, 0), 4099);
        Check.due("V(10000, 0)", x.openVoltage(10000, 0), 4100);
        Check.due("V(10000, 1)", x.openVoltage(10000, 1), 4100);
        Check.due("V(10000, 24)", x.openVoltage(10000, 24), 4100);
        Check.due("V(10000, 25)", x.openVoltage(10000, 25), 4101);
        Check.due("V(10000, 999)", x.openVoltage(10000, 999), 4139);
        Check.due("V(10000, 1000)", x.openVoltage(10000, 1000), 4140);
    }

    private static ChargeEstimator flattest() {
        ChargeEstimator x = new ChargeEstimator();
        for (int i = 0; i <= 10; i++) {
            x.setCurve(i, 3000 + i, 3000 + i);
        }
        return x;
    }

    private static void flattestCurves() {
        ChargeEstimator x = flattest();
        for (int i = 0; i < 10; i++) {
            Check.due("a millivolt rises at the next point alone", x.openVoltage(1000 * i + 999, 0), 3000 + i);
            Check.due("at the next point", x.openVoltage(1000 * i + 1000, 500), 3001 + i);
            Check.due("its inversion", x.invert(3001 + i, 0), 1000 * i + 1000);
        }
        Check.due("below the first point", x.invert(2999, 0), 0);
        Check.due("at the first point", x.invert(3000, 1000), 0);
        Check.due("above the last point", x.invert(3011, 0), 10000);
    }

    private static void equalBranches() {
        ChargeEstimator x = flattest();
        for (int h = 0; h <= 1000; h += 100) {
            Check.due("the hysteresis has no width", x.openVoltage(5000, h), 3005);
        }
    }

    // ---- The hysteresis state

    private static void hysteresis() {
        hysteresisState();
        hysteresisRange();
        hysteresisClamped();
    }

    /** "The hysteresis state is h = hq * 1000 / H (0 to 1000)" */
    private static void hysteresisState() {
        ChargeEstimator x = exact(100, 5000);
        Check.due("h of 0", x.status(2), 0);
        x.measure(35, 3600, 1);
        Check.due("h of 35 / 36000", x.status(2), 0);
        x.measure(1, 3600, 1);
        Check.due("h of 36 / 36000", x.status(2), 1);
        x.measure(35963, 3600, 1);
        Check.due("h of 35999 / 36000", x.status(2), 999);
        x.measure(1, 3600, 1);
        Check.due("h of 36000 / 36000", x.status(2), 1000);
        x.measure(-1, 3600, 1);
        Check.due("h of 35999 / 36000 once more", x.status(2), 999);
    }

    /** "the hysteresis range H = C * width / 100" */
    private static void hysteresisRange() {
        for (int width = 1; width <= 50; width += 7) {
            ChargeEstimator x = exact(101, 0);
            x.set(3, width);
            x.measure(50000, 3600, 600);
            Check.due("H of " + width, x.charge(5), 3636 * width);
        }
        ChargeEstimator x = exact(2000, 5000);
        x.measure(0, 4200, 60);
        x.measure(-11999, 3600, 600);
        x.measure(-599, 2900, 1);
        x.measure(2000, 3600, 600);
        Check.due("C", x.charge(3), 7199999);
        Check.due("H is rounded down", x.charge(5), 719999);
        Check.due("h", x.status(2), 1000);
    }

    /** "hq becomes Clamp(hq + c, 0, H)" */
    private static void hysteresisClamped() {
        ChargeEstimator x = exact(100, 5000);
        x.measure(-1, 3600, 1);
        Check.due("hq is at least 0", x.charge(5), 0);
        x.measure(36000, 3600, 1);
        Check.due("hq just at H", x.charge(5), 36000);
        x.measure(1, 3600, 1);
        Check.due("hq is at most H", x.charge(5), 36000);
        x.measure(-35999, 3600, 1);
        Check.due("hq above 0", x.charge(5), 1);
        x.measure(-1, 3600, 1);
        Check.due("hq just at 0", x.charge(5), 0);
    }

    /** "The inversion of a voltage v is the smallest s with V(s, h) at least v, 10000 if there is none." */
    private static void inversion() {
        ChargeEstimator x = new ChargeEstimator();
        int[][] due = {{0, 0, 0}, {2999, 0, 0}, {3000, 0, 0}, {3001, 0, 4}, {3299, 0, 997}, {3300, 0, 1000}, {3301, 0, 1007},
            {4099, 0, 9994}, {4100, 0, 10000}, {4101, 0, 10000}, {6000, 0, 10000}, {3040, 1000, 0}, {3041, 1000, 4},
            {4139, 1000, 9994}, {4140, 1000, 10000}, {4141, 1000, 10000}, {3020, 500, 0}, {3021, 500, 4}};
        for (int[] d : due) {
            Check.due("invert(" + d[0] + ", " + d[1] + ")", x.invert(d[0], d[1]), d[2]);
        }
    }

    // ---- Step 1

    private static void counting() {
        efficiency();
        driftParts();
        estimateClamped();
        boundsClamped();
        countedIsNotClamped();
    }

    /** "Let c = i * t, if i is above 0 c = (i * t * efficiency) / 1000" */
    private static void efficiency() {
        ChargeEstimator x = new ChargeEstimator();
        x.measure(1, 3600, 1);
        Check.due("0.995 is rounded down", x.charge(6), 0);
        Check.due("and so is the throughput", x.throughput(), 0);
        x.measure(1, 3600, 2);
        Check.due("1.99 is rounded down", x.charge(6), 1);
        x.measure(0, 3600, 600);
        Check.due("nothing at 0", x.charge(6), 1);
        x.measure(-1, 3600, 1);
        Check.due("whole below 0", x.charge(6), 0);
        Check.due("throughput", x.throughput(), 2);
        x.set(0, 900);
        x.measure(50000, 3600, 600);
        Check.due("the least efficiency", x.charge(6), 27000000);
        x.set(0, 1000);
        x.measure(50000, 3600, 600);
        Check.due("the greatest efficiency", x.charge(6), 57000000);
    }

    /** "let the drift be (offset * t) / 1000 + (|c| * gain error) / 1000000" */
    private static void driftParts() {
        int[][] due = {{999, 5000, -199, 1, 0}, {1000, 5000, -199, 1, 1}, {999, 5000, -200, 1, 1}, {1000, 5000, -200, 1, 2},
            {1, 0, -1, 600, 0}, {10000, 0, -1, 600, 6000}, {0, 20000, -50000, 600, 600000}, {0, 1, -1666, 600, 0},
            {0, 1, -3367, 297, 0},
            {0, 1, -50000, 20, 1}, {10000, 20000, 0, 600, 6000}, {0, 20000, 200, 1, 3}};
        for (int[] d : due) {
            ChargeEstimator x = new ChargeEstimator();
            x.set(1, d[0]);
            x.set(2, d[1]);
            x.begin(20000, 5000);
            x.measure(d[2], 3600, d[3]);
            Check.due("lo with " + java.util.Arrays.toString(d), x.charge(1), x.charge(0) - d[4]);
            Check.due("hi with " + java.util.Arrays.toString(d), x.charge(2), x.charge(0) + d[4]);
        }
    }

    /** "q becomes Clamp(q + c, 0, C)" */
    private static void estimateClamped() {
        ChargeEstimator x = exact(100, ChargeEstimator.NONE);
        x.measure(-300, 3600, 600);
        Check.due("q just at 0", x.charge(0), 0);
        x.measure(-1, 3600, 1);
        Check.due("q stays at 0", x.charge(0), 0);
        x.measure(600, 3600, 600);
        Check.due("q just at C", x.charge(0), 360000);
        x.measure(1, 3600, 1);
        Check.due("q stays at C", x.charge(0), 360000);
        x.measure(-1, 3600, 1);
        Check.due("q below C", x.charge(0), 359999);
    }

    /** "lo becomes Clamp(lo + c - drift, 0, C), hi becomes Clamp(hi + c + drift, 0, C)" */
    private static void boundsClamped() {
        ChargeEstimator x = new ChargeEstimator();
        x.set(0, 1000);
        x.set(1, 1000);
        x.set(2, 0);
        x.begin(100, 0);
        x.measure(1, 3600, 1);
        Check.dueCharges("lo just at 0", x, 1, 0, 2);
        x.measure(-2, 3600, 1);
        Check.dueCharges("lo stays at 0", x, 0, 0, 1);
        x.measure(-3, 3600, 1);
        Check.dueCharges("hi is at least 0", x, 0, 0, 0);
        x.begin(100, 10000);
        x.measure(-1, 3600, 1);
        Check.dueCharges("hi just at C", x, 359999, 359998, 360000);
        x.measure(1, 3600, 1);
        Check.dueCharges("hi stays at C", x, 360000, 359998, 360000);
        x.measure(50000, 3600, 1);
        Check.dueCharges("lo is at most C", x, 360000, 360000, 360000);
    }

    /** "The throughput increases by |c|, the charge counted since the latest anchor by c" */
    private static void countedIsNotClamped() {
        ChargeEstimator x = exact(100, 10000);
        x.measure(1000, 3600, 600);
        Check.due("q stays at C", x.charge(0), 360000);
        Check.due("counted all the same", x.charge(6), 600000);
        x.measure(-2000, 3600, 600);
        Check.due("counted below 0", x.charge(6), -600000);
        Check.due("throughput", x.throughput(), 1800000);
    }

    // ---- Step 2

    private static void rest() {
        restCurrent();
        restVoltage();
        restTime();
        voltageBeforeOfEachCall();
        restOnTheWay();
        restChargesAtTheEnds();
    }

    /** "If |i| is at most the rest current" */
    private static void restCurrent() {
        int[][] due = {{20, 20, 7}, {20, 21, 0}, {20, -20, 7}, {20, -21, 0}, {0, 0, 7}, {0, 1, 0}, {0, -1, 0},
            {1000, 1000, 7}, {1000, 1001, 0}, {1000, -1000, 7}, {1000, -1001, 0}, {1000, -50000, 0}};
        for (int[] d : due) {
            ChargeEstimator x = new ChargeEstimator();
            x.set(4, d[0]);
            x.measure(0, 3600, 1);
            x.measure(d[1], 3600, 7);
            Check.due("rest current " + d[0] + ", current " + d[1], x.status(0), d[2]);
        }
    }

    /** "and |v - the voltage of the measurement before| at most the rest voltage" */
    private static void restVoltage() {
        int[][] due = {{2, 3602, 7}, {2, 3603, 0}, {2, 3598, 7}, {2, 3597, 0}, {0, 3600, 7}, {0, 3601, 0}, {0, 3599, 0},
            {100, 3700, 7}, {100, 3701, 0}, {100, 3500, 7}, {100, 3499, 0}, {100, 0, 0}, {100, 6000, 0}};
        for (int[] d : due) {
            ChargeEstimator x = new ChargeEstimator();
            x.set(5, d[0]);
            x.measure(0, 3600, 1);
            x.measure(0, d[1], 7);
            Check.due("rest voltage " + d[0] + ", voltage " + d[1] + " after 3600", x.status(0), d[2]);
        }
        ChargeEstimator x = new ChargeEstimator();
        x.measure(0, 0, 1);
        Check.due("a voltage of 0 counts as one before", restAfter(x, 0), 7);
        x.begin(2000, 5000);
        Check.due("no voltage before is not a voltage of 0", restAfter(x, 0), 0);
        x.begin(2000, 5000);
        x.set(5, 100);
        Check.due("nor one of -1", restAfter(x, 1), 0);
    }

    private static int restAfter(ChargeEstimator x, int voltage) {
        x.measure(0, voltage, 7);
        return x.status(0);
    }

    /** "If by this it is at least the rest time, and was below it before, there is a rest anchor" */
    private static void restTime() {
        ChargeEstimator x = new ChargeEstimator();
        x.repeat(0, 3600, 600, 3);
        Check.due("1799 seconds", x.measure(0, 3600, 599), 0);
        Check.due("1800 seconds", x.measure(0, 3600, 1), 1);
        Check.due("1801 seconds", x.measure(0, 3600, 1), 0);
        x.set(6, 1);
        x.measure(1000, 3600, 1);
        Check.due("a second is enough", x.measure(0, 3600, 1), 1);
        Check.due("not again", x.measure(0, 3600, 1), 0);
        x.set(6, 10000);
        x.measure(1000, 3600, 1);
        Check.due("9600 seconds", x.repeat(0, 3600, 600, 16), 0);
        Check.due("9999 seconds", x.measure(0, 3600, 399), 0);
        Check.due("10000 seconds", x.measure(0, 3600, 1), 1);
        x.set(6, 10000);
        x.measure(1000, 3600, 1);
        x.repeat(0, 3600, 600, 16);
        Check.due("10200 seconds, over it at once", x.measure(0, 3600, 600), 1);
    }

    /** "the voltage of the measurement before": whatever call has treated it, and none that has not. */
    private static void voltageBeforeOfEachCall() {
        ChargeEstimator x = exact(2000, 5000);
        x.repeat(0, 3500, 1, 1);
        Check.due("after repeat()", restAfter(x, 3500), 7);
        x.simulate(0, 1, 0, 1);
        Check.due("after simulate()", restAfter(x, 3600), 7);
        Check.write(x, "0,3400,1;0,3300,1;");
        x.replay();
        Check.due("after replay()", restAfter(x, 3300), 7);
        x.measure(0, 3400, 1);
        x.repeat(0, 3500, 1, 0);
        Check.due("repeat() of none leaves it", restAfter(x, 3400), 7);
        x.measure(0, 3300, 1);
        x.simulate(0, 1, 0, 0);
        Check.due("simulate() of none leaves it", restAfter(x, 3300), 7);
        x.measure(0, 3500, 1);
        x.wouldAnchor(0, 1, 0, 9);
        Check.due("wouldAnchor() leaves it", restAfter(x, 3500), 7);
        x.measure(0, 3300, 1);
        Check.dueIllegal("a refused one", x, () -> x.measure(0, 3500, 0));
        Check.due("a refused measure() leaves it", restAfter(x, 3300), 7);
        x.measure(0, 3500, 1);
        Check.write(x, "0,0,0;");
        Check.due("a refused text", x.replay(), -1002);
        Check.due("a refused replay() leaves it", restAfter(x, 3500), 7);
    }

    /** "with the inversions of v, of v - voltage error, and of v + voltage error", here with h = 500. */
    private static void restOnTheWay() {
        ChargeEstimator x = exact(2000, 5000);
        x.set(6, 1);
        x.measure(600, 3620, 600);
        Check.due("h", x.status(2), 500);
        Check.due("rest", x.measure(0, 3620, 1), 1);
        // V is 3620 at 5000, 3615 first at 4875, and 3625 first at 5100.
        Check.dueAnchor("rest", x, 0, 0, 5000, 601, 7200000);
        Check.dueCharges("rest", x, 3672000, 3510000, 3672000);
        x.begin(2000, ChargeEstimator.NONE);
        x.measure(0, 3700, 1);
        Check.due("rest above q", x.measure(0, 3700, 1), 1);
        Check.dueCharges("rest above q", x, 6563 * 720, 6563 * 720, 6688 * 720);
        Check.dueAnchor("rest above q", x, 0, 0, 6625);
        x.begin(2000, ChargeEstimator.NONE);
        x.measure(0, 3500, 1);
        Check.due("rest below q", x.measure(0, 3500, 1), 1);
        Check.dueCharges("rest below q", x, 2786 * 720, 2643 * 720, 2786 * 720);
        Check.dueAnchor("rest below q", x, 0, 0, 2715);
    }

    /** The inversions of v - error and v + error also where these are no voltages of a measurement. */
    private static void restChargesAtTheEnds() {
        int[][] due = {{0, 0, 0, 0}, {50, 0, 0, 0}, {6000, 10000, 10000, 10000}, {5950, 10000, 10000, 10000},
            {4100, 10000, 9667, 10000}, {3000, 0, 0, 167}, {2950, 0, 0, 0}, {2951, 0, 0, 4}, {4150, 10000, 10000, 10000},
            {4149, 10000, 9994, 10000}};
        for (int[] d : due) {
            ChargeEstimator x = exact(2000, ChargeEstimator.NONE);
            x.set(6, 1);
            x.set(7, 50);
            x.measure(0, d[0], 1);
            Check.due("rest at " + d[0], x.measure(0, d[0], 1), 1);
            Check.dueAnchor("rest at " + d[0], x, 0, 0, d[1]);
            Check.due("lo of the rest at " + d[0], x.charge(1), 720 * d[2]);
            Check.due("hi of the rest at " + d[0], x.charge(2), 720 * d[3]);
        }
    }

    // ---- Step 3

    /** "If i is at least 0 and at most the taper current, and v is at least the full voltage" */
    private static void full() {
        int[][] due = {{100, 4150, 0, 4150, 7}, {100, 4150, -1, 4150, 0}, {100, 4150, 100, 4150, 7}, {100, 4150, 101, 4150, 0},
            {100, 4150, 50, 4149, 0}, {100, 4150, 50, 6000, 7}, {0, 4150, 0, 4150, 7}, {0, 4150, 1, 4150, 0},
            {10000, 4150, 10000, 4150, 7}, {10000, 4150, 10001, 4150, 0}, {100, 2000, 0, 2000, 7}, {100, 2000, 0, 1999, 0},
            {100, 5000, 0, 5000, 7}, {100, 5000, 0, 4999, 0}};
        for (int[] d : due) {
            ChargeEstimator x = new ChargeEstimator();
            x.set(9, d[0]);
            x.set(8, d[1]);
            x.measure(d[2], d[3], 7);
            Check.due("full counter, by " + java.util.Arrays.toString(d), x.status(1), d[4]);
        }
        fullTime();
    }

    /** "If by this it is at least 60, and was below it before, there is a full anchor" */
    private static void fullTime() {
        ChargeEstimator x = new ChargeEstimator();
        Check.due("59 seconds", x.measure(0, 4150, 59), 0);
        Check.due("60 seconds", x.measure(0, 4150, 1), 2);
        Check.due("61 seconds", x.measure(0, 4150, 1), 0);
        Check.due("a break", x.measure(0, 4149, 1), 0);
        Check.due("counter", x.status(1), 0);
        Check.due("60 seconds at once, the first measurement of it", x.measure(0, 4150, 60), 2);
        x.measure(0, 4149, 1);
        Check.due("600 seconds at once", x.measure(0, 4150, 600), 2);
        Check.due("so many seconds are not a second time", x.measure(0, 4150, 600), 0);
        x.begin(2000, 5000);
        Check.due("begin() sets the counter to 0", x.measure(0, 4150, 59), 0);
        Check.due("so it needs 60 again", x.measure(0, 4150, 1), 2);
    }

    // ---- Step 4

    /** "If i is below 0 and v is at most the empty voltage" */
    private static void empty() {
        int[][] due = {{2900, -1, 2900, 4}, {2900, 0, 2900, 0}, {2900, 1, 2900, 0}, {2900, -1, 2901, 0}, {2900, -50000, 0, 4},
            {1000, -1, 1000, 4}, {1000, -1, 1001, 0}, {4000, -1, 4000, 4}, {4000, -1, 4001, 0}};
        for (int[] d : due) {
            ChargeEstimator x = new ChargeEstimator();
            x.set(10, d[0]);
            Check.due("empty, by " + java.util.Arrays.toString(d), x.measure(d[1], d[2], 1), d[3]);
        }
        emptyBefore();
    }

    /** "and this was not so at the measurement before (or there was none)" */
    private static void emptyBefore() {
        ChargeEstimator x = new ChargeEstimator();
        Check.due("none before", x.measure(-1, 2900, 1), 4);
        Check.due("so before", x.measure(-1, 2900, 1), 0);
        x.measure(0, 2900, 1);
        Check.due("not so before, by the current", x.measure(-1, 2900, 1), 4);
        x.measure(-1, 2901, 1);
        Check.due("not so before, by the voltage", x.measure(-1, 2900, 1), 4);
        x.begin(2000, 5000);
        Check.due("none before, after begin()", x.measure(-1, 2900, 1), 4);
        Check.due("once in a repeat()", x.repeat(-1, 2900, 1, 9), 0);
        x.measure(0, 3600, 1);
        Check.due("once in a repeat() of its own", x.repeat(-1, 2900, 1, 9), 1);
        x.measure(0, 3600, 1);
        Check.due("repeat() of none", x.repeat(-1, 2900, 1, 0), 0);
        Check.due("is none before", x.measure(-1, 2900, 1), 4);
        Check.dueIllegal("a refused one", x, () -> x.measure(0, 3600, 0));
        Check.due("is none before, either", x.measure(-1, 2900, 1), 0);
    }

    // ---- An anchor: learning

    private static void learning() {
        noAnchorBefore();
        learningSpan();
        signs();
        learningRange();
        broughtDown();
        learningAtHalf();
        latestAnchorOfAFullLog();
    }

    /** "first, if there was an anchor before" */
    private static void noAnchorBefore() {
        ChargeEstimator x = exact(2000, 5000);
        x.measure(-12000, 3600, 600);
        Check.due("the first anchor", x.measure(-1, 2900, 1), 4);
        Check.due("teaches nothing", x.status(4), 0);
        x.measure(12000, 3600, 600);
        Check.due("the second anchor", x.measure(0, 4200, 60), 2);
        Check.due("teaches", x.status(4), 1);
        Check.due("even if it is what was known", x.charge(3), 7200000);
        x.begin(2000, 5000);
        x.measure(9000, 3600, 600);
        Check.due("the first anchor after begin()", x.measure(0, 4200, 60), 2);
        Check.due("teaches nothing", x.status(4), 0);
        Check.due("and leaves C", x.charge(3), 7200000);
    }

    /** "and |s - p| is at least the learning span" */
    private static void learningSpan() {
        int[][] due = {{10000, 1}, {500, 1}};
        for (int[] d : due) {
            ChargeEstimator x = exact(2000, 5000);
            x.set(11, d[0]);
            x.measure(0, 4200, 60);
            x.measure(-12000, 3600, 600);
            x.measure(-1, 2900, 1);
            Check.due("a span of 10000 with " + d[0], x.status(4), d[1]);
        }
        spanOf(4000, 4000, 1);
        spanOf(4001, 4000, 0);
        spanOf(3999, 4000, 1);
        spanOf(1000, 1000, 1);
        spanOf(1001, 1000, 0);
        ChargeEstimator x = exact(2000, 5000);
        x.set(11, 500);
        x.measure(0, 4200, 60);
        x.measure(-12000, 4200, 600);
        Check.due("full again", x.measure(0, 4200, 60), 2);
        Check.due("no span at all", x.status(4), 0);
    }

    /** From full down by a span that is a whole number of points of the lower branch. */
    private static void spanOf(int setting, int span, int learnings) {
        ChargeEstimator x = exact(2000, 5000);
        x.set(11, setting);
        x.set(6, 1);
        x.measure(0, 4200, 60);
        int voltage = LOWER[(10000 - span) / 1000];
        x.measure(-12 * span / 10, voltage, 600);
        Check.due("rest", x.measure(0, voltage, 1), 1);
        Check.due("its state of charge", x.anchor(1, 1), 10000 - span);
        Check.due("a span of " + span + " with " + setting, x.status(4), learnings);
    }

    /** "the charge d counted since then is above 0 exactly if s is above p, and not 0" */
    private static void signs() {
        ChargeEstimator x = exact(2000, 5000);
        x.measure(0, 4200, 60);
        x.measure(7200, 3600, 600);
        Check.due("empty after charging", x.measure(-1, 2900, 1), 4);
        Check.due("is not learnt", x.status(4), 0);
        Check.due("but the counted charge is 0", x.charge(6), 0);
        x.measure(-7200, 3600, 600);
        Check.due("full after discharging", x.measure(0, 4200, 60), 2);
        Check.due("is not learnt", x.status(4), 0);
        Check.due("the counted charge is 0 again", x.charge(6), 0);
        x.measure(-1, 2900, 1);
        x.measure(7200, 3600, 600);
        Check.due("full after charging", x.measure(0, 4200, 60), 2);
        Check.due("is learnt", x.status(4), 1);
        x.measure(-7200, 3600, 600);
        Check.due("empty after discharging", x.measure(-1, 2900, 1), 4);
        Check.due("is learnt", x.status(4), 2);
        x.begin(2000, 5000);
        x.measure(-1, 2900, 1);
        Check.due("full without any charge", x.measure(0, 4200, 60), 2);
        Check.due("is not learnt", x.status(4), 0);
    }

    /** "if x is at least N / 2 and at most N * 3 / 2", of N, not of C */
    private static void learningRange() {
        long[][] due = {{3599999, 7200000, 0}, {3600000, 6300000, 1}, {3600001, 6300000, 1}, {3600004, 6300001, 1},
            {10799999, 8099999, 1}, {10800000, 8100000, 1}, {10800001, 7200000, 0}};
        for (long[] d : due) {
            ChargeEstimator x = exact(2000, 5000);
            x.measure(0, 4200, 60);
            int most = (int) ((d[0] - 1) / 600);
            x.measure(-most, 3600, 600);
            Check.due("empty", x.measure((int) (600L * most - d[0]), 2900, 1), 4);
            Check.due("C by " + d[0], x.charge(3), d[1]);
            Check.due("learnings by " + d[0], x.status(4), d[2]);
            Check.due("the capacity in the log by " + d[0], x.anchor(1, 3), d[1]);
        }
        ofTheNominalCapacity();
    }

    /** C is 6300000 after the first learning, but 10800000 is still learnt, and 3600000 is, too. */
    private static void ofTheNominalCapacity() {
        ChargeEstimator x = exact(2000, 5000);
        x.measure(0, 4200, 60);
        x.measure(-5999, 3600, 600);
        x.measure(-600, 2900, 1);
        x.measure(18000, 3600, 600);
        x.measure(0, 4200, 60);
        Check.due("10800000 with a C of 6300000", x.charge(3), 6300000 + (10800000 - 6300000) / 4);
        x.measure(-17999, 3600, 600);
        x.measure(-600, 2900, 1);
        Check.due("and once more", x.charge(3), 7425000 + (10800000 - 7425000) / 4);
        x.measure(6000, 3600, 600);
        x.measure(0, 4200, 60);
        Check.due("3600000 with a C above N", x.charge(3), 7101562);
    }

    private static void broughtDown() {
        ChargeEstimator x = exact(2000, ChargeEstimator.NONE);
        Check.due("empty", x.measure(-1, 2900, 1), 4);
        x.measure(-5000, 3600, 600);
        x.measure(11000, 3600, 600);
        Check.dueCharges("above the capacity to come", x, 6600000, 6600000, 6600000, 7200000, 7200000, 720000, 3600000);
        Check.due("full", x.measure(0, 4200, 60), 2);
        Check.dueCharges("brought down", x, 6300000, 6300000, 6300000, 6300000, 7200000, 630000, 0);
        Check.due("lo comes down before it is compared, so there is no conflict", x.status(3), 0);
        Check.due("learnings", x.status(4), 1);
    }

    /** Half of N is learnt until C is just that, and three halves until C is as near as it comes. */
    private static void learningAtHalf() {
        ChargeEstimator x = exact(2000, 5000);
        x.measure(0, 4200, 60);
        for (int i = 0; i < 60; i++) {
            x.measure(-5999, 3600, 600);
            Check.due("empty", x.measure(-600, 2900, 1), 4);
            x.measure(6000, 3600, 600);
            Check.due("full", x.measure(0, 4200, 60), 2);
        }
        Check.due("C is half of N", x.charge(3), 3600000);
        Check.due("health of a half", x.healthBits(), 0x3F000000);
        Check.dueCharges("full", x, 3600000, 3600000, 3600000, 3600000, 7200000, 360000, 0);
        ChargeEstimator y = exact(2000, 5000);
        y.measure(0, 4200, 60);
        for (int i = 0; i < 60; i++) {
            y.measure(-17999, 3600, 600);
            Check.due("empty", y.measure(-600, 2900, 1), 4);
            y.measure(18000, 3600, 600);
            Check.due("full", y.measure(0, 4200, 60), 2);
        }
        Check.due("C is three halves of N, but 3", y.charge(3), 10799997);
        Check.due("health of that", y.healthBits(), Float.floatToIntBits(10799997.0f / 7200000.0f));
        Check.due("all are counted", y.status(4), 120);
    }

    /** The anchor before is the latest one, also when the log has no room for all of them. */
    private static void latestAnchorOfAFullLog() {
        ChargeEstimator x = exact(2000, 5000);
        for (int i = 0; i < 41; i++) {
            x.measure(0, 4200, 60);
            x.measure(0, 4000, 1);
        }
        Check.due("a full log", x.anchors(), 40);
        x.measure(-5999, 3600, 600);
        Check.due("empty", x.measure(-600, 2900, 1), 4);
        Check.due("is learnt by the latest", x.charge(3), 6300000);
        Check.dueAnchor("the latest", x, 39, 2, 0, 61 * 41 + 601, 6300000);
    }

    // ---- An anchor: the bounds

    private static void bounds() {
        conflictEdges();
        narrowed();
        conflictOfFullAndEmpty();
    }

    /** "If a1 is below lo or a0 is above hi, this is a conflict": here a0 is 3510000, and a1 is 3672000. */
    private static void conflictEdges() {
        bound(5100, 0, 0, 3672000, 3672000, 3672000);
        bound(5100, 1, 1, 3672000, 3510000, 3672000);
        bound(5100, -1, 0, 3671999, 3671999, 3671999);
        bound(4875, 0, 0, 3510000, 3510000, 3510000);
        bound(4875, -1, 1, 3510000, 3510000, 3672000);
        bound(4875, 1, 0, 3510001, 3510001, 3510001);
    }

    private static void bound(int soc, int current, int conflicts, long q, long lo, long hi) {
        ChargeEstimator x = exact(2000, soc);
        x.set(6, 1);
        x.set(4, 0);
        x.measure(current, 3600, 1);
        Check.due("rest at " + soc + " and " + current, x.measure(0, 3600, 1), 1);
        Check.due("conflicts at " + soc + " and " + current, x.status(3), conflicts);
        Check.dueCharges("rest at " + soc + " and " + current, x, q, lo, hi);
    }

    /** "otherwise lo becomes the greater one of lo and a0, hi the smaller one of hi and a1" */
    private static void narrowed() {
        ChargeEstimator x = exact(2000, ChargeEstimator.NONE);
        x.set(6, 1);
        x.measure(0, 3600, 1);
        x.measure(0, 3600, 1);
        Check.dueCharges("both narrowed", x, 3600000, 3510000, 3672000);
        x.set(1, 10000);
        x.measure(0, 3700, 600);
        Check.dueCharges("drifted", x, 3600000, 3504000, 3678000);
        x.set(7, 0);
        x.measure(0, 3603, 1);
        Check.due("rest", x.measure(0, 3603, 1), 1);
        Check.dueCharges("to a point", x, 5060 * 720, 5060 * 720, 5060 * 720);
        ChargeEstimator y = exact(2000, 5000);
        y.set(6, 1);
        y.measure(0, 3600, 1);
        y.measure(0, 3600, 1);
        Check.dueCharges("narrower than the anchor already", y, 3600000, 3600000, 3600000);
    }

    private static void conflictOfFullAndEmpty() {
        ChargeEstimator x = exact(2000, 9999);
        Check.due("full", x.measure(0, 4200, 60), 2);
        Check.due("hi was just below", x.status(3), 1);
        Check.dueCharges("full", x, 7200000, 7200000, 7200000);
        x.begin(2000, 10000);
        x.measure(0, 4200, 60);
        Check.due("hi was at C", x.status(3), 0);
        x.begin(2000, 1);
        Check.due("empty", x.measure(-1, 2900, 1), 4);
        Check.due("lo was just above", x.status(3), 1);
        Check.dueCharges("empty", x, 0, 0, 0);
        x.begin(2000, 0);
        x.measure(-1, 2900, 1);
        Check.due("lo was at 0", x.status(3), 0);
    }

    // ---- Log

    /** "The latest 40 anchors are kept, the oldest first" */
    private static void log() {
        ChargeEstimator x = exact(2000, 5000);
        for (int i = 1; i <= 42; i++) {
            Check.due("empty", x.measure(-1, 2900, 1), 4);
            x.measure(0, 3600, 1);
            Check.due("anchors after " + i, x.anchors(), i < 40 ? i : 40);
            Check.due("the oldest after " + i, x.anchor(0, 2), i <= 40 ? 1 : 2 * (i - 40) + 1);
            Check.due("the newest after " + i, x.anchor(x.anchors() - 1, 2), 2 * i - 1);
            Check.dueIndex("none behind it", x, () -> x.anchor(x.anchors(), 0));
        }
    }

    // ---- Examples

    private static void examples() {
        ChargeEstimator a = new ChargeEstimator();
        Check.due("1: measure", a.measure(2000, 3700, 600), 0);
        Check.dueCharges("1", a, 4794000, 1187730, 7200000);
        Check.due("1: soc(0)", a.soc(0), 6658);
        Check.due("1: status(2)", a.status(2), 1000);
        ChargeEstimator b = new ChargeEstimator();
        Check.due("2: repeat", b.repeat(0, 3600, 600, 3), 0);
        Check.due("2: measure", b.measure(0, 3600, 600), 1);
        Check.due("2: anchors", b.anchors(), 1);
        Check.due("2: anchor(0, 1)", b.anchor(0, 1), 5000);
        Check.due("2: soc(1)", b.soc(1), 4875);
        Check.due("2: soc(2)", b.soc(2), 5100);
        ChargeEstimator c = new ChargeEstimator();
        Check.due("3: invert(3600, 0)", c.invert(3600, 0), 5000);
        Check.due("3: invert(3600, 1000)", c.invert(3600, 1000), 4000);
        Check.due("3: openVoltage(5500, 500)", c.openVoltage(5500, 500), 3645);
        Check.dueIllegal("3: setCurve(5, 3700, 3700)", c, () -> c.setCurve(5, 3700, 3700));
        ChargeEstimator d = new ChargeEstimator();
        Check.due("4: begin", d.begin(1000, 5000), 0);
        Check.due("4: reaches", d.reaches(-1000), 1791);
        Check.due("4: lasts", d.lasts(-1000, 2500), 895);
        Check.due("4: boundAfter", d.boundAfter(-1000, 600, false), 1196700);
        Check.due("4: wouldAnchor", d.wouldAnchor(0, 600, 0, 10), 1);
        ChargeEstimator e = new ChargeEstimator();
        Check.due("5: append", e.append(49), 1);
        Check.due("5: replay", e.replay(), -11);
        Check.dueIllegal("5: measure", e, () -> e.measure(0, 0, 0));
        Check.dueIndex("5: anchor", e, () -> e.anchor(0, 0));
        Check.dueIllegal("5: reaches", e, () -> e.reaches(0));
        Check.dueState("5: undo", e, () -> e.undo());
    }
}
