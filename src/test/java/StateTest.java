/** Promises 10 to 19: charge, soc, status, throughput, cycles, healthBits, openVoltage, invert, anchors, anchor. */
final class StateTest {
    public static void main(String[] args) {
        chargesAndStates();
        throughputAndCycles();
        healthBits();
        openVoltage();
        invert();
        log();
        Check.end();
    }

    private static void chargesAndStates() {
        ChargeEstimator x = new ChargeEstimator();
        x.begin(100, ChargeEstimator.NONE);
        x.measure(-1, 3600, 7);
        Check.dueCharges("charges", x, 179993, 0, 359996, 360000, 360000, 0, -7);
        Check.due("soc(0)", x.soc(0), 4999);
        Check.due("soc(1)", x.soc(1), 0);
        Check.due("soc(2)", x.soc(2), 9999);
        x.measure(101, 3600, 7);
        // 707 * 995 / 1000 = 703; h = 703 * 1000 / 36000
        Check.due("hq", x.charge(5), 703);
        Check.dueStatus("states", x, 0, 0, 19, 0, 0, 14);
        Check.dueIllegal("charge(-1)", x, () -> x.charge(-1));
        Check.dueIllegal("charge(7)", x, () -> x.charge(7));
        Check.dueIllegal("soc(-1)", x, () -> x.soc(-1));
        Check.dueIllegal("soc(3)", x, () -> x.soc(3));
        Check.dueIllegal("status(-1)", x, () -> x.status(-1));
        Check.dueIllegal("status(6)", x, () -> x.status(6));
        Check.dueIllegal("status of least int", x, () -> x.status(Integer.MIN_VALUE));
        socOfALearntCapacity();
    }

    private static void socOfALearntCapacity() {
        ChargeEstimator x = new ChargeEstimator();
        x.measure(0, 4200, 60);
        x.repeat(-2000, 3500, 600, 5);
        x.measure(-2000, 2900, 1);
        x.measure(2000, 3500, 600);
        // 1194000 of 6900500
        Check.due("soc of the capacity C", x.soc(0), 1730);
        Check.due("hq at H of C", x.charge(5), 690050);
    }

    private static void throughputAndCycles() {
        ChargeEstimator x = new ChargeEstimator();
        Check.dueThat("no cycles", x.cycles() == 0.0);
        x.measure(1000, 3600, 100);
        x.measure(-1000, 3600, 100);
        Check.due("throughput", x.throughput(), 199500);
        Check.dueThat("cycles", x.cycles() == 199500.0 / 14400000.0);
        x.repeat(50000, 3600, 600, 500);
        Check.due("more than an int holds", x.throughput(), 199500L + 500L * 29850000L);
        Check.dueThat("many cycles", x.cycles() == (double) (199500L + 500L * 29850000L) / 14400000.0);
    }

    private static void healthBits() {
        ChargeEstimator x = new ChargeEstimator();
        Check.due("healthy", x.healthBits(), Float.floatToIntBits(1.0f));
        for (int i = 0; i < 60; i++) {
            x.begin(1000 + 37 * i, 10000);
            x.measure(0, 4200, 60);
            // The rest lies at 6000, so 4000 of 10000 have gone.
            long wanted = x.charge(4) * (51 + i * 98 / 59) / 100 * 4000 / 10000;
            x.measure((int) (-wanted / 600), 3650, 600);
            x.set(6, 1);
            x.measure(0, 3650, 1);
            Check.due("learnt", x.status(4), 1);
            float health = (float) x.charge(3) / (float) x.charge(4);
            Check.due("health of " + x.charge(3) + " / " + x.charge(4), x.healthBits(), Float.floatToIntBits(health));
        }
        worstHealth(true);
        worstHealth(false);
    }

    /** Learns the least, or the greatest, capacity again and again, so that the health comes near 0.5 or 1.5. */
    private static void worstHealth(boolean least) {
        ChargeEstimator x = new ChargeEstimator();
        x.measure(0, 4200, 60);
        int current = least ? 6000 : 18000;
        for (int i = 0; i < 20; i++) {
            x.set(0, 1000);
            x.measure(-current, 3600, 600);
            x.measure(0, 2900, 1);
            x.set(10, 2900);
            x.set(6, 1);
            x.measure(0, 2900, 1);
            x.measure(current, 3600, 600);
            x.measure(0, 4200, 60);
            float health = (float) x.charge(3) / 7200000.0f;
            Check.due("health", x.healthBits(), Float.floatToIntBits(health));
        }
        Check.dueThat("a worst health", least ? x.charge(3) <= 3610000 : x.charge(3) >= 10790000);
    }

    private static void openVoltage() {
        ChargeEstimator x = new ChargeEstimator();
        Check.due("openVoltage(0, 0)", x.openVoltage(0, 0), 3000);
        Check.due("openVoltage(0, 1000)", x.openVoltage(0, 1000), 3040);
        Check.due("openVoltage(10000, 0)", x.openVoltage(10000, 0), 4100);
        Check.due("openVoltage(10000, 999)", x.openVoltage(10000, 999), 4139);
        Check.due("openVoltage(1000, 0)", x.openVoltage(1000, 0), 3300);
        Check.due("openVoltage(1999, 0)", x.openVoltage(1999, 0), 3449);
        Check.due("openVoltage(5500, 500)", x.openVoltage(5500, 500), 3645);
        x.setCurve(5, 3570, 3670);
        // L is 3562 and a half, U is 3617 and a half: 3562 + 55 * 333 / 1000
        Check.due("both branches are rounded down", x.openVoltage(4250, 333), 3580);
        Check.dueIllegal("openVoltage(-1, 0)", x, () -> x.openVoltage(-1, 0));
        Check.dueIllegal("openVoltage(10001, 0)", x, () -> x.openVoltage(10001, 0));
        Check.dueIllegal("openVoltage(0, -1)", x, () -> x.openVoltage(0, -1));
        Check.dueIllegal("openVoltage(0, 1001)", x, () -> x.openVoltage(0, 1001));
    }

    private static void invert() {
        ChargeEstimator x = new ChargeEstimator();
        x.setCurve(5, 3561, 3689);
        for (int h = 0; h <= 1000; h += 125) {
            int expected = 0;
            for (int v = 2990; v <= 4160; v++) {
                while (expected < 10000 && x.openVoltage(expected, h) < v) {
                    expected++;
                }
                Check.due("invert(" + v + ", " + h + ")", x.invert(v, h), expected);
            }
        }
        Check.due("invert(0, 0)", x.invert(0, 0), 0);
        Check.due("invert(6000, 1000)", x.invert(6000, 1000), 10000);
        Check.dueIllegal("invert(-1, 0)", x, () -> x.invert(-1, 0));
        Check.dueIllegal("invert(6001, 0)", x, () -> x.invert(6001, 0));
        Check.dueIllegal("invert(0, -1)", x, () -> x.invert(0, -1));
        Check.dueIllegal("invert(0, 1001)", x, () -> x.invert(0, 1001));
    }

    private static void log() {
        ChargeEstimator x = new ChargeEstimator();
        Check.dueIndex("anchor(0, 0) of an empty log", x, () -> x.anchor(0, 0));
        Check.dueIndex("anchor(0, 4) of an empty log", x, () -> x.anchor(0, 4));
        // So nothing but 0 rests, and no rest anchors come between.
        x.set(4, 0);
        for (int i = 0; i < 45; i++) {
            x.measure(0, 4200, 60);
            x.measure(-1, 4200, 1);
            Check.due("anchors()", x.anchors(), Math.min(40, i + 1));
        }
        for (int i = 0; i < 40; i++) {
            Check.dueAnchor("the latest 40", x, i, 1, 10000, 60 + 61 * (i + 5), 7200000);
        }
        Check.dueIndex("anchor(-1, 0)", x, () -> x.anchor(-1, 0));
        Check.dueIndex("anchor(40, 0)", x, () -> x.anchor(40, 0));
        Check.dueIndex("anchor(40, 4)", x, () -> x.anchor(40, 4));
        Check.dueIllegal("anchor(0, -1)", x, () -> x.anchor(0, -1));
        Check.dueIllegal("anchor(39, 4)", x, () -> x.anchor(39, 4));
        Check.due("the empty one joins", x.measure(-1, 2900, 1), 4);
        Check.dueAnchor("the newest", x, 39, 2, 0, 2746, 7200000);
        Check.due("the oldest", x.anchor(0, 2), 60 + 61 * 6);
        x.undo();
        Check.due("undo brings the oldest back", x.anchor(0, 2), 60 + 61 * 5);
        Check.due("begin empties the log", x.begin(2000, 0), 40);
        Check.due("anchors()", x.anchors(), 0);
    }
}
