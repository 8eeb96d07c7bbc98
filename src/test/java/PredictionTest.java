/** Promises 20 to 23: boundAfter, reaches, lasts, wouldAnchor. */
final class PredictionTest {
    public static void main(String[] args) {
        boundAfter();
        boundAfterIsAsMeasured();
        reaches();
        lasts();
        wouldAnchor();
        refuses();
        Check.end();
    }

    private static void boundAfter() {
        ChargeEstimator x = new ChargeEstimator();
        x.begin(1000, 5000);
        Check.due("lo", x.boundAfter(-1000, 600, false), 1196700);
        Check.due("hi", x.boundAfter(-1000, 600, true), 1203300);
        Check.due("no time", x.boundAfter(50000, 0, true), 1800000);
        Check.due("hi at C", x.boundAfter(50000, 1000000, true), 3600000);
        Check.due("lo at 0", x.boundAfter(-50000, 1000000, false), 0);
        Check.due("lo at C", x.boundAfter(50000, 1000000, false), 3600000);
        Check.due("hi at 0", x.boundAfter(-50000, 1000000, true), 0);
        Check.due("only the offset", x.boundAfter(0, 1999, true), 1800999);
        Check.due("nothing is saved", x.undo(), 0);
    }

    private static void boundAfterIsAsMeasured() {
        ChargeEstimator x = new ChargeEstimator();
        x.begin(3000, 5000);
        x.set(1, 777);
        x.set(2, 12345);
        for (int current = -3001; current <= 3001; current += 333) {
            for (int t = 1; t <= 600; t += 149) {
                long low = x.boundAfter(current, t, false);
                long high = x.boundAfter(current, t, true);
                x.measure(current, 3500, t);
                Check.due("lo after " + current + " for " + t, low, x.charge(1));
                Check.due("hi after " + current + " for " + t, high, x.charge(2));
                x.undo();
            }
        }
    }

    private static void reaches() {
        ChargeEstimator x = new ChargeEstimator();
        Check.due("lo is at 0", x.reaches(-1), 0);
        Check.due("hi is at C", x.reaches(1), 0);
        x.begin(1000, 5000);
        Check.due("reaches(-1000)", x.reaches(-1000), 1791);
        Check.due("reaches(1000)", x.reaches(1000), 1800);
        Check.due("reaches(-1)", x.reaches(-1), ChargeEstimator.NONE);
        Check.due("reaches(1)", x.reaches(1), ChargeEstimator.NONE);
        x.begin(20000, 0);
        x.set(1, 0);
        x.set(2, 0);
        x.set(0, 1000);
        Check.due("just in time", x.reaches(72), 1000000);
        Check.due("just too late", x.reaches(71), ChargeEstimator.NONE);
        x.begin(20000, 10000);
        Check.due("just in time, down", x.reaches(-72), 1000000);
        Check.due("just too late, down", x.reaches(-71), ChargeEstimator.NONE);
        for (int current = -50000; current <= 50000; current += 997) {
            int t = x.reaches(current);
            boolean up = current > 0;
            long end = up ? x.charge(3) : 0;
            Check.dueThat("reached", t == ChargeEstimator.NONE || x.boundAfter(current, t, up) == end);
            Check.dueThat("not before", t <= 0 || x.boundAfter(current, t - 1, up) != end);
        }
    }

    private static void lasts() {
        ChargeEstimator x = new ChargeEstimator();
        x.begin(1000, 5000);
        Check.due("lasts(-1000, 2500)", x.lasts(-1000, 2500), 895);
        Check.due("lasts(-1000, 5000)", x.lasts(-1000, 5000), 0);
        Check.due("lasts(-1000, 5001)", x.lasts(-1000, 5001), ChargeEstimator.NONE);
        Check.due("lo never falls below 0", x.lasts(-50000, 0), 1000000);
        Check.due("lasts(-1, 0)", x.lasts(-1, 0), 1000000);
        Check.due("lasts(-50000, 1)", x.lasts(-50000, 1), 35);
        x.begin(20000, 10000);
        x.set(1, 0);
        x.set(2, 0);
        Check.due("to the last second", x.lasts(-36, 5000), 1000000);
        Check.due("one second less", x.lasts(-72, 0), 1000000);
        Check.due("half of the time", x.lasts(-72, 5000), 500000);
        x.begin(20000, ChargeEstimator.NONE);
        Check.due("lo is 0", x.lasts(-1, 1), ChargeEstimator.NONE);
        Check.due("lo is 0, nothing is kept", x.lasts(-1, 0), 1000000);
        lastsOfALearntCapacity();
    }

    private static void lastsOfALearntCapacity() {
        ChargeEstimator x = new ChargeEstimator();
        x.measure(0, 4200, 60);
        x.repeat(-2000, 3500, 600, 5);
        x.measure(-2000, 2900, 1);
        x.measure(50000, 3500, 600);
        x.set(1, 0);
        x.set(2, 0);
        Check.due("C", x.charge(3), 6900500);
        // 6900500 * 3333 / 10000 = 2299936, so 4600564 may go; of N it would be 4500840.
        Check.due("the reserve is of C", x.lasts(-1000, 3333), 4600);
    }

    private static void wouldAnchor() {
        ChargeEstimator x = new ChargeEstimator();
        x.begin(1000, 5000);
        long before = x.digest();
        Check.due("rest", x.wouldAnchor(0, 600, 0, 10), 1);
        Check.due("rest, a time too few", x.wouldAnchor(0, 600, 0, 3), 0);
        Check.due("rest, just", x.wouldAnchor(0, 600, 0, 4), 1);
        Check.due("empty", x.wouldAnchor(-5000, 60, 50, 200), 4);
        Check.due("none", x.wouldAnchor(0, 600, 0, 0), 0);
        Check.due("nothing has changed", x.digest(), before);
        x.set(8, 3600);
        Check.due("rest and full", x.wouldAnchor(0, 60, 0, 100), 3);
        x.set(10, 4000);
        x.set(6, 1);
        Check.due("rest and empty", x.wouldAnchor(-1, 1, 0, 500), 5);
        before = x.digest();
        x.wouldAnchor(-1, 1, 0, 500);
        Check.due("nothing has changed", x.digest(), before);
        Check.due("no voltage before has come", x.measure(0, 3600, 1), 0);
        Check.due("rest counter", x.status(0), 0);
    }

    private static void refuses() {
        ChargeEstimator x = new ChargeEstimator();
        Check.dueIllegal("boundAfter(-50001, ..)", x, () -> x.boundAfter(-50001, 0, true));
        Check.dueIllegal("boundAfter(50001, ..)", x, () -> x.boundAfter(50001, 0, false));
        Check.dueIllegal("boundAfter(0, -1, ..)", x, () -> x.boundAfter(0, -1, true));
        Check.dueIllegal("boundAfter(0, 1000001, ..)", x, () -> x.boundAfter(0, 1000001, false));
        Check.dueIllegal("reaches(0)", x, () -> x.reaches(0));
        Check.dueIllegal("reaches(-50001)", x, () -> x.reaches(-50001));
        Check.dueIllegal("reaches(50001)", x, () -> x.reaches(50001));
        Check.dueIllegal("lasts(0, 0)", x, () -> x.lasts(0, 0));
        Check.dueIllegal("lasts(1, 0)", x, () -> x.lasts(1, 0));
        Check.dueIllegal("lasts(-50001, 0)", x, () -> x.lasts(-50001, 0));
        Check.dueIllegal("lasts(-1, -1)", x, () -> x.lasts(-1, -1));
        Check.dueIllegal("lasts(-1, 10001)", x, () -> x.lasts(-1, 10001));
    }
}
