/** Promises 27 and 28: undo, digest. */
final class UndoTest {
    public static void main(String[] args) {
        depth();
        bringsAllBack();
        forgottenMeasurements();
        digest();
        Check.end();
    }

    private static void depth() {
        ChargeEstimator x = new ChargeEstimator();
        Check.dueState("undo() of a new object", x, () -> x.undo());
        for (int i = 0; i < 6; i++) {
            x.set(4, i);
        }
        for (int i = 3; i >= 0; i--) {
            Check.due("states that remain", x.undo(), i);
            Check.due("the value before", x.value(4), i + 1);
        }
        Check.dueState("the older ones are dropped", x, () -> x.undo());
        x.set(4, 20);
        x.set(4, 20);
        Check.due("a call that changes nothing is saved", x.undo(), 1);
    }

    /** Each of the undoable calls is undone, and the digest has to be the one from before it. */
    private static void bringsAllBack() {
        ChargeEstimator x = new ChargeEstimator();
        x.measure(0, 4200, 60);
        x.repeat(-2000, 3500, 600, 5);
        x.measure(-2000, 2900, 1);
        x.measure(1000, 3700, 50);
        Check.write(x, "100,4200,60;-1,2800,9;");
        undoBringsBack(x, "begin", () -> x.begin(500, 1234));
        undoBringsBack(x, "set", () -> x.set(3, 1));
        undoBringsBack(x, "setCurve", () -> x.setCurve(7, 3731, 3779));
        undoBringsBack(x, "measure", () -> x.measure(-1, 2000, 600));
        undoBringsBack(x, "repeat", () -> x.repeat(0, 4200, 600, 9));
        undoBringsBack(x, "simulate", () -> x.simulate(-9000, 600, 100, 9));
        undoBringsBack(x, "replay", () -> x.replay());
        int length = x.append('0');
        x.set(0, 900);
        x.clearText();
        x.undo();
        Check.due("undo leaves the text alone", x.append('0'), 1);
        Check.due("the length was", length, 23);
    }

    private static void undoBringsBack(ChargeEstimator x, String what, Check.Call call) {
        // The number of saved states is a part of the digest, so it has to be 4 before and after.
        x.undo();
        x.set(1, 500);
        x.undo();
        long before = x.digest();
        call.run();
        Check.dueThat(what + " changes the digest", x.digest() != before);
        Check.due(what + " is undoable", x.undo(), 3);
        Check.due(what + " is undone, by the digest", x.digest(), before);
        x.set(1, 500);
    }

    /** What no call shows at once: the voltage before, and whether it was empty. */
    private static void forgottenMeasurements() {
        ChargeEstimator x = new ChargeEstimator();
        x.set(6, 1);
        x.measure(0, 3600, 1);
        x.undo();
        Check.due("no voltage before, after undo", x.measure(0, 3600, 1), 0);
        x.measure(0, 3700, 1);
        x.undo();
        Check.due("the voltage before is back", x.measure(0, 3600, 1), 1);
        x.set(4, 0);
        x.measure(-1, 2900, 1);
        x.undo();
        Check.due("it was not empty", x.measure(-1, 2900, 1), 4);
        x.measure(-1, 2901, 1);
        x.undo();
        Check.due("it was empty", x.measure(-1, 2900, 1), 0);
    }

    private static void digest() {
        ChargeEstimator x = new ChargeEstimator();
        Check.due("digest of a new object", x.digest(), digestByHand(x, 0, 0));
        x.append('a');
        x.append('b');
        x.set(0, 901);
        x.set(3, 50);
        x.setCurve(3, 3500, 3570);
        x.measure(0, 4200, 60);
        x.measure(-1000, 2900, 600);
        x.measure(0, 2901, 5);
        x.measure(123, 4190, 5);
        Check.due("digest", x.digest(), digestByHand(x, 2, 4));
        x.undo();
        Check.due("digest after undo", x.digest(), digestByHand(x, 2, 3));
        x.clearText();
        Check.due("digest without text", x.digest(), digestByHand(x, 0, 3));
    }

    private static long digestByHand(ChargeEstimator x, int length, int saved) {
        long h = 31L * 2999 + length;
        for (int i = 0; i <= 11; i++) {
            h = 31 * h + x.value(i);
        }
        for (int i = 0; i <= 10; i++) {
            h = 31 * h + x.curve(i, false);
        }
        for (int i = 0; i <= 10; i++) {
            h = 31 * h + x.curve(i, true);
        }
        for (int i = 0; i <= 6; i++) {
            h = 31 * h + x.charge(i);
        }
        for (int i = 0; i <= 5; i++) {
            h = 31 * h + x.status(i);
        }
        h = 31 * h + x.throughput();
        h = 31 * h + x.anchors();
        for (int i = 0; i < x.anchors(); i++) {
            for (int what = 0; what <= 3; what++) {
                h = 31 * h + x.anchor(i, what);
            }
        }
        return 31 * h + saved;
    }
}
