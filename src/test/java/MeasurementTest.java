/** Promises 7 to 9: measure, repeat, simulate, and the steps and anchors behind them. */
final class MeasurementTest {
    public static void main(String[] args) {
        countedCharge();
        clampedCharge();
        rest();
        restNeedsQuiet();
        restUsesHysteresisAndError();
        full();
        empty();
        emptyIsJudgedAtItsTime();
        severalAtOnce();
        learning();
        learningRefuses();
        learningBringsDown();
        conflict();
        repeat();
        simulate();
        refuses();
        Check.end();
    }

    private static void countedCharge() {
        ChargeEstimator x = new ChargeEstimator();
        x.begin(2000, 5000);
        Check.due("charging", x.measure(2001, 3700, 7), 0);
        // 2001 * 7 = 14007; with 995 thousandths 13936; the drift is 3 + 69.
        Check.dueCharges("charging", x, 3613936, 3613864, 3614008, 7200000, 7200000, 13936, 13936);
        Check.due("discharging", x.measure(-2001, 3700, 7), 0);
        // The efficiency does not count here; the drift is 3 + 70.
        Check.dueCharges("discharging", x, 3599929, 3599784, 3600074, 7200000, 7200000, 0, -71);
        Check.due("throughput", x.throughput(), 13936 + 14007);
        Check.due("time", x.status(5), 14);
        Check.due("at rest the offset drifts", x.measure(0, 3700, 600), 0);
        Check.dueCharges("at rest", x, 3599929, 3599484, 3600374, 7200000, 7200000, 0, -71);
    }

    private static void clampedCharge() {
        ChargeEstimator x = new ChargeEstimator();
        x.begin(100, ChargeEstimator.NONE);
        x.measure(50000, 3700, 600);
        Check.dueCharges("clamped above", x, 360000, 360000, 360000, 360000, 360000, 36000, 29850000);
        x.measure(-50000, 3700, 600);
        Check.dueCharges("clamped below", x, 0, 0, 0, 360000, 360000, 0, -150000);
    }

    private static void rest() {
        ChargeEstimator x = new ChargeEstimator();
        Check.due("the first one has none before", x.measure(0, 3600, 600), 0);
        Check.due("its counter", x.status(0), 0);
        x.measure(20, 3602, 600);
        x.measure(-20, 3600, 600);
        Check.due("counter", x.status(0), 1200);
        Check.due("one second early", x.measure(0, 3600, 599), 0);
        Check.due("just the rest time", x.measure(0, 3600, 1), 1);
        Check.dueAnchor("rest", x, 0, 0, 5000, 2400, 7200000);
        Check.due("no second one", x.measure(0, 3600, 600), 0);
        Check.due("the counter goes on", x.status(0), 2400);
        x.set(6, 3000);
        Check.due("a later rest time", x.measure(0, 3600, 600), 1);
        x.set(6, 4000);
        x.set(6, 10);
        Check.due("a rest time that has passed already", x.measure(0, 3600, 600), 0);
    }

    private static void restNeedsQuiet() {
        ChargeEstimator x = new ChargeEstimator();
        x.set(6, 100);
        x.measure(0, 3600, 1);
        Check.due("voltage too far above", x.measure(0, 3603, 600), 0);
        Check.due("counter after that", x.status(0), 0);
        Check.due("voltage too far below", x.measure(0, 3600, 600), 0);
        Check.due("current too high", x.measure(21, 3600, 600), 0);
        Check.due("current too low", x.measure(-21, 3600, 600), 0);
        x.measure(0, 3600, 99);
        Check.due("counter", x.status(0), 99);
        Check.due("a break", x.measure(0, 3603, 600), 0);
        Check.due("counter after the break", x.status(0), 0);
        Check.due("from the start again", x.measure(0, 3603, 99), 0);
        Check.due("reached", x.measure(0, 3603, 1), 1);
        x.set(4, 0);
        x.set(5, 0);
        x.measure(1, 3603, 100);
        Check.due("rest current 0", x.status(0), 0);
        x.measure(0, 3603, 50);
        Check.due("no difference", x.status(0), 50);
        x.measure(0, 3604, 50);
        Check.due("rest voltage 0", x.status(0), 0);
    }

    private static void restUsesHysteresisAndError() {
        ChargeEstimator x = new ChargeEstimator();
        x.begin(2000, 5000);
        x.set(6, 1);
        x.measure(2000, 3640, 600);
        Check.due("on the upper branch", x.measure(0, 3640, 1), 1);
        Check.due("its state of charge", x.anchor(0, 1), 5000);
        // V is 3635 at 4875 and 3645 at 5100 on the upper branch, 1194000 mAs were charged.
        Check.dueCharges("conflict of the upper branch", x, 3672000, 3510000, 3672000, 7200000, 7200000, 720000, 0);
        Check.due("conflicts", x.status(3), 1);
        x.begin(2000, ChargeEstimator.NONE);
        x.set(7, 0);
        x.measure(0, 3600, 1);
        x.measure(0, 3600, 1);
        Check.dueCharges("without error", x, 3600000, 3600000, 3600000);
        x.begin(2000, ChargeEstimator.NONE);
        x.set(7, 50);
        x.measure(0, 3, 1);
        Check.due("v - error below 0", x.measure(0, 3, 1), 1);
        Check.dueCharges("v - error below 0", x, 0, 0, 0);
        x.begin(2000, ChargeEstimator.NONE);
        x.measure(0, 5999, 1);
        Check.due("v + error above 6000", x.measure(0, 5999, 1), 1);
        Check.dueCharges("v + error above 6000", x, 7200000, 7200000, 7200000);
    }

    private static void full() {
        ChargeEstimator x = new ChargeEstimator();
        Check.due("59 seconds", x.measure(100, 4150, 59), 0);
        Check.due("full counter", x.status(1), 59);
        Check.due("60 seconds", x.measure(0, 5000, 1), 2);
        Check.dueAnchor("full", x, 0, 1, 10000, 60, 7200000);
        Check.dueCharges("full", x, 7200000, 7200000, 7200000);
        Check.due("no second one", x.measure(100, 4150, 600), 0);
        Check.due("the counter goes on", x.status(1), 660);
        Check.due("current too high", x.measure(101, 4150, 600), 0);
        Check.due("counter after that", x.status(1), 0);
        Check.due("current below 0", x.measure(-1, 4150, 600), 0);
        Check.due("voltage too low", x.measure(50, 4149, 600), 0);
        Check.due("counter after all", x.status(1), 0);
        Check.due("at once", x.measure(50, 4150, 60), 2);
        x.set(9, 0);
        x.set(8, 2000);
        Check.due("taper current 0", x.measure(1, 3000, 600), 0);
        Check.due("current 0", x.measure(0, 2000, 600), 2);
    }

    private static void empty() {
        ChargeEstimator x = new ChargeEstimator();
        Check.due("current 0", x.measure(0, 2900, 1), 0);
        Check.due("the first one", x.measure(-1, 2900, 1), 4);
        Check.dueAnchor("empty", x, 0, 2, 0, 2, 7200000);
        Check.dueCharges("empty", x, 0, 0, 0);
        Check.due("still so", x.measure(-1, 2000, 1), 0);
        Check.due("voltage too high", x.measure(-1, 2901, 1), 0);
        Check.due("once more", x.measure(-1, 2900, 1), 4);
        Check.due("current above 0", x.measure(1, 2900, 1), 0);
        Check.due("and once more", x.measure(-1, 2900, 1), 4);
        Check.due("all are logged", x.anchors(), 3);
    }

    private static void emptyIsJudgedAtItsTime() {
        ChargeEstimator x = new ChargeEstimator();
        Check.due("not empty by 2900", x.measure(-1, 2950, 1), 0);
        x.set(10, 3000);
        Check.due("empty by 3000, and was not so before", x.measure(-1, 2950, 1), 4);
        Check.due("empty, and was so before", x.measure(-1, 2950, 1), 0);
    }

    private static void severalAtOnce() {
        ChargeEstimator x = new ChargeEstimator();
        x.set(6, 60);
        x.measure(0, 4200, 1);
        Check.due("rest and full", x.measure(0, 4200, 60), 3);
        Check.due("rest is logged first", x.anchor(0, 0), 0);
        Check.due("full is logged second", x.anchor(1, 0), 1);
        x.begin(2000, 5000);
        x.measure(0, 2900, 1);
        Check.due("rest and empty", x.measure(-1, 2900, 60), 5);
        Check.due("empty is logged second", x.anchor(1, 0), 2);
    }

    private static void learning() {
        ChargeEstimator x = new ChargeEstimator();
        x.measure(0, 4200, 60);
        x.repeat(-2000, 3500, 600, 5);
        Check.due("empty after 6002000 mAs", x.measure(-2000, 2900, 1), 4);
        // (6002000 - 7200000) / 4 = -299500
        Check.due("the capacity falls", x.charge(3), 6900500);
        Check.due("N stays", x.charge(4), 7200000);
        Check.due("learnings", x.status(4), 1);
        Check.due("the capacity is logged", x.anchor(1, 3), 6900500);
        x.repeat(2001, 3500, 600, 6);
        Check.due("full after charging", x.measure(0, 4200, 60), 2);
        // 6 * 1194597 = 7167582; (7167582 - 6900500) / 4 = 66770 and a half
        Check.due("the capacity grows", x.charge(3), 6967270);
        Check.due("learnings", x.status(4), 2);
        x.measure(-7199, 3500, 600);
        x.measure(-7201, 3500, 300);
        Check.due("empty", x.measure(-1, 2900, 1), 4);
        // (6479701 - 6967270) / 4 = -121892.25, rounded down
        Check.due("the capacity falls, rounded down", x.charge(3), 6845377);
    }

    private static void learningRefuses() {
        ChargeEstimator x = new ChargeEstimator();
        x.measure(-1, 2900, 1);
        x.measure(0, 2901, 1);
        x.measure(-7200, 2901, 600);
        Check.due("the wrong way: full after discharging", x.measure(0, 4200, 60), 2);
        Check.due("not learnt", x.status(4), 0);
        Check.due("nothing counted: empty", drainAtOnce(x), 4);
        Check.due("not learnt, too little", x.status(4), 0);
        x.begin(2000, 5000);
        x.measure(0, 4200, 60);
        x.measure(-5999, 3600, 600);
        Check.due("just below half of N: empty", x.measure(-599, 2900, 1), 4);
        Check.due("3599999 is too little", x.status(4), 0);
        x.begin(2000, 5000);
        x.measure(0, 4200, 60);
        x.measure(-5999, 3600, 600);
        x.measure(-600, 2900, 1);
        Check.due("3600000 is enough", x.status(4), 1);
        Check.due("C of it", x.charge(3), 6300000);
        x.begin(2000, 5000);
        x.measure(0, 4200, 60);
        x.measure(-18000, 3600, 600);
        x.measure(-1, 2900, 1);
        Check.due("10800001 is too much", x.status(4), 0);
        x.begin(2000, 5000);
        x.measure(0, 4200, 60);
        x.measure(-17999, 3600, 600);
        x.measure(-600, 2900, 1);
        Check.due("10800000 is not too much", x.status(4), 1);
        Check.due("C of it", x.charge(3), 8100000);
        learningSpan();
    }

    private static int drainAtOnce(ChargeEstimator x) {
        return x.measure(-1, 2900, 1);
    }

    private static void learningSpan() {
        ChargeEstimator x = new ChargeEstimator();
        x.set(6, 1);
        x.measure(0, 4200, 60);
        x.measure(-6000, 3650, 480);
        Check.due("rest at 6000", x.measure(0, 3650, 1), 1);
        Check.due("state of charge", x.anchor(1, 1), 6000);
        Check.due("a span of 4000 is enough", x.status(4), 1);
        x.begin(2000, 5000);
        x.set(11, 4001);
        x.measure(0, 4200, 60);
        x.measure(-6000, 3650, 480);
        x.measure(0, 3650, 1);
        Check.due("a span of 4000 is too short", x.status(4), 0);
        Check.due("the charge is counted from the latest anchor", x.charge(6), 0);
        x.begin(2000, 5000);
        x.set(11, 4000);
        x.measure(-1, 2900, 1);
        x.measure(9000, 3600, 402);
        x.measure(2, 3600, 1);
        x.measure(0, 3600, 1);
        Check.due("the state of charge of the rest", x.anchor(1, 1), 4000);
        // 9000 * 402 * 0.995 + 1 = 3599911, over 4000: 8999777; (8999777 - 7200000) / 4
        Check.due("a span of 4000 upwards", x.charge(3), 7649944);
    }

    private static void learningBringsDown() {
        ChargeEstimator x = new ChargeEstimator();
        x.set(3, 50);
        x.measure(-1, 2900, 1);
        x.repeat(6000, 3600, 600, 1);
        Check.due("hq", x.charge(5), 3582000);
        x.measure(300, 4140, 60);
        x.set(0, 1000);
        x.measure(6000, 4000, 1);
        Check.due("hq at H", x.charge(5), 3600000);
        Check.due("full", x.measure(0, 4200, 60), 2);
        // counted 3582000 + 17910 + 6000 = 3605910; (3605910 - 7200000) / 4 = -898522.5
        Check.dueCharges("learnt", x, 6301477, 6301477, 6301477, 6301477, 7200000, 3150738, 0);
        Check.due("h", x.status(2), 1000);
    }

    private static void conflict() {
        ChargeEstimator x = new ChargeEstimator();
        x.begin(2000, 0);
        Check.due("full from 0", x.measure(0, 4200, 60), 2);
        Check.due("a conflict", x.status(3), 1);
        Check.dueCharges("a conflict", x, 7200000, 7200000, 7200000);
        Check.due("empty from full", x.measure(-1, 2900, 1), 4);
        Check.due("another one", x.status(3), 2);
        Check.dueCharges("another one", x, 0, 0, 0);
        ChargeEstimator y = new ChargeEstimator();
        y.set(1, 0);
        y.set(6, 1);
        y.begin(2000, 4875);
        y.measure(0, 3600, 1);
        Check.due("rest", y.measure(0, 3600, 1), 1);
        Check.due("touching is no conflict", y.status(3), 0);
        Check.dueCharges("touching", y, 3510000, 3510000, 3510000);
        y.begin(2000, 5101);
        y.measure(0, 3600, 1);
        y.measure(0, 3600, 1);
        Check.due("just beside is one", y.status(3), 1);
        Check.dueCharges("just beside", y, 3672000, 3510000, 3672000);
    }

    private static void repeat() {
        ChargeEstimator x = new ChargeEstimator();
        ChargeEstimator y = new ChargeEstimator();
        x.set(6, 60);
        y.set(6, 60);
        Check.due("both kinds count", x.repeat(0, 4200, 30, 3), 2);
        y.measure(0, 4200, 30);
        y.measure(0, 4200, 30);
        y.measure(0, 4200, 30);
        y.undo();
        y.undo();
        y.measure(0, 4200, 30);
        y.measure(0, 4200, 30);
        x.set(0, 995);
        Check.due("the same as single ones: throughput", x.throughput(), y.throughput());
        for (int i = 0; i < 7; i++) {
            Check.due("the same as single ones: charge", x.charge(i), y.charge(i));
        }
        for (int i = 0; i < 6; i++) {
            Check.due("the same as single ones: status", x.status(i), y.status(i));
        }
        x.undo();
        Check.due("one undo for all", x.undo(), 1);
        Check.due("time before", x.status(5), 0);
        Check.due("none at all", x.repeat(0, 4200, 30, 0), 0);
        Check.due("it is saved all the same", x.undo(), 1);
        Check.due("500", x.repeat(-100, 3000, 600, 500), 0);
        Check.due("500 times 600", x.status(5), 300000);
    }

    private static void simulate() {
        ChargeEstimator x = new ChargeEstimator();
        x.begin(2000, 5000);
        Check.due("to empty", x.simulate(-2000, 60, 100, 60), 1);
        // Only 3100 less the drop of 200 is empty: below 337, so at 5000 - 28 * 166.67, which the 29th one sees.
        Check.dueAnchor("at the first voltage of at most 2900", x, 0, 2, 0, 1740, 7200000);
        x.undo();
        Check.due("undone", x.anchors(), 0);
        Check.due("none at all", x.simulate(-2000, 60, 100, 0), 0);
        Check.due("it is saved all the same", x.undo(), 1);
        Check.due("rest and full", restAndFull(x), 2);
        voltagesOfTheModel();
    }

    private static int restAndFull(ChargeEstimator x) {
        x.set(6, 60);
        x.set(8, 3600);
        return x.simulate(0, 60, 0, 3);
    }

    private static void voltagesOfTheModel() {
        ChargeEstimator x = new ChargeEstimator();
        x.begin(2000, 5000);
        // The drop is -1 / 1000, rounded down, so 3599 millivolts.
        x.set(10, 3599);
        Check.due("a drop is rounded down", x.simulate(-1, 1, 1, 1), 1);
        x.begin(2000, 5000);
        x.set(8, 3600);
        Check.due("a rise is rounded down", x.simulate(1, 60, 1, 1), 1);
        x.begin(2000, 5000);
        x.set(8, 3601);
        Check.due("a rise below a millivolt is none", x.simulate(1, 60, 1, 1), 0);
        x.begin(2000, 5000);
        x.set(6, 1);
        x.set(5, 0);
        x.set(4, 1000);
        Check.due("clamped at 0, so it rests", x.wouldAnchor(-1000, 1, 1000, 2), 4);
        x.begin(2000, 5000);
        x.set(10, 1000);
        Check.due("at least 0", x.simulate(-50000, 1, 1000, 1), 1);
        x.measure(0, 2, 1);
        Check.due("a voltage of 0 is near 2", x.status(0), 0);
        x.set(5, 2);
        x.simulate(-50000, 1, 1000, 1);
        x.measure(0, 2, 1);
        Check.due("a voltage of 0 was the one before", x.status(0), 1);
        x.simulate(50000, 1, 1000, 1);
        x.measure(0, 5998, 1);
        Check.due("a voltage of 6000 was the one before", x.status(0), 1);
        x.set(5, 0);
        x.simulate(-50000, 1, 1000, 1);
        x.measure(0, 0, 1);
        Check.due("it was just 0", x.status(0), 1);
        x.simulate(50000, 1, 1000, 1);
        x.measure(0, 6000, 1);
        Check.due("it was just 6000", x.status(0), 1);
    }

    private static void refuses() {
        ChargeEstimator x = new ChargeEstimator();
        int[][] wrong = {{-50001, 0, 1}, {50001, 0, 1}, {0, -1, 1}, {0, 6001, 1}, {0, 0, 0}, {0, 0, 601},
            {Integer.MIN_VALUE, 0, 1}, {0, Integer.MAX_VALUE, 1}, {0, 0, Integer.MIN_VALUE}};
        for (int[] w : wrong) {
            Check.dueIllegal("measure", x, () -> x.measure(w[0], w[1], w[2]));
            Check.dueIllegal("repeat", x, () -> x.repeat(w[0], w[1], w[2], 1));
            Check.dueIllegal("repeat, 0 times", x, () -> x.repeat(w[0], w[1], w[2], 0));
        }
        Check.dueIllegal("repeat count -1", x, () -> x.repeat(0, 0, 1, -1));
        Check.dueIllegal("repeat count 501", x, () -> x.repeat(0, 0, 1, 501));
        int[][] models = {{-50001, 1, 0, 1}, {50001, 1, 0, 1}, {0, 0, 0, 1}, {0, 601, 0, 1}, {0, 1, -1, 1},
            {0, 1, 1001, 1}, {0, 1, 0, -1}, {0, 1, 0, 501}};
        for (int[] w : models) {
            Check.dueIllegal("simulate", x, () -> x.simulate(w[0], w[1], w[2], w[3]));
            Check.dueIllegal("wouldAnchor", x, () -> x.wouldAnchor(w[0], w[1], w[2], w[3]));
        }
        Check.due("the edges are allowed", x.measure(50000, 6000, 600), 0);
        Check.due("the other edges", x.measure(-50000, 0, 1), 4);
    }
}
