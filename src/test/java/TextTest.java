/** Promises 24 to 26: append, clearText, replay. */
final class TextTest {
    public static void main(String[] args) {
        append();
        syntaxErrors();
        ranges();
        replay();
        Check.end();
    }

    private static void append() {
        ChargeEstimator x = new ChargeEstimator();
        Check.dueIllegal("append(-1)", x, () -> x.append(-1));
        Check.dueIllegal("append(128)", x, () -> x.append(128));
        for (int i = 0; i < 120; i++) {
            Check.due("append", x.append(i == 0 ? 127 : 0), i + 1);
        }
        Check.dueState("append(0) to a full text", x, () -> x.append(0));
        Check.dueIllegal("append(128) to a full text", x, () -> x.append(128));
        Check.dueState("append is not undoable", x, () -> x.undo());
        Check.due("clearText", x.clearText(), 120);
        Check.due("clearText", x.clearText(), 0);
        Check.due("append", x.append(0), 1);
        Check.dueState("clearText is not undoable", x, () -> x.undo());
    }

    private static void dueReplay(String text, int want) {
        ChargeEstimator x = new ChargeEstimator();
        Check.write(x, text);
        long before = x.digest();
        Check.due("replay() of \"" + text + "\"", x.replay(), want);
        if (want < 0) {
            Check.due("\"" + text + "\" changes the state; the digest", x.digest(), before);
            Check.dueState("an error is not undoable", x, () -> x.undo());
        }
        Check.due("the text stays", x.clearText(), text.length());
    }

    private static void syntaxErrors() {
        dueReplay("", 0);
        dueReplay(";", -10);
        dueReplay(",", -10);
        dueReplay(" ", -10);
        dueReplay("-", -11);
        dueReplay("--1,2,3;", -11);
        dueReplay("-,2,3;", -11);
        dueReplay("1-,2,3;", -11);
        dueReplay("+1,2,3;", -10);
        dueReplay("/1,2,3;", -10);
        dueReplay(":1,2,3;", -10);
        dueReplay("1", -11);
        dueReplay("1,", -12);
        dueReplay("1,2", -13);
        dueReplay("1,2,", -14);
        dueReplay("1,2,3", -15);
        dueReplay("1,,3;", -12);
        dueReplay("1,2;", -13);
        dueReplay("1;2,3;", -11);
        dueReplay("1,2,3,", -15);
        dueReplay("1,2,;", -14);
        dueReplay("1,2,-;", -15);
        dueReplay("1,2,3;;", -16);
        dueReplay("1,2,3; ", -16);
        dueReplay("1,2,3;4", -17);
        dueReplay("1,2,3;-", -17);
        dueReplay("123456,2,3;", -15);
        dueReplay("-123456,2,3;", -16);
        dueReplay("1,2,000001;", -19);
        dueReplay("12345", -15);
        dueReplay("99999,1,1;x", -20);
        dueReplay("-,99999", -11);
    }

    private static void ranges() {
        dueReplay("50000,0,1;", 1);
        dueReplay("50001,0,1;", -1000);
        dueReplay("-50000,0,1;", 1);
        dueReplay("-50001,0,1;", -1000);
        dueReplay("99999,0,1;", -1000);
        dueReplay("-99999,0,1;", -1000);
        dueReplay("0,6000,600;", 1);
        dueReplay("0,6001,600;", -1000);
        dueReplay("0,-1,600;", -1000);
        dueReplay("0,0,601;", -1000);
        dueReplay("0,0,0;", -1000);
        dueReplay("0,0,-1;", -1000);
        dueReplay("-0,-00000,00001;", 1);
        dueReplay("0,0,1;0,0,2;0,0,0;0,9999,1;", -1002);
        dueReplay("0,0,1;0,9999,2;0,0,0;", -1001);
    }

    private static void replay() {
        ChargeEstimator x = new ChargeEstimator();
        ChargeEstimator y = new ChargeEstimator();
        Check.write(x, "-2000,3700,600;2001,3705,7;0,4200,60;-1,2900,1;");
        Check.due("four measurements", x.replay(), 4);
        y.measure(-2000, 3700, 600);
        y.measure(2001, 3705, 7);
        y.measure(0, 4200, 60);
        y.measure(-1, 2900, 1);
        for (int i = 0; i < 7; i++) {
            Check.due("as measured: charge(" + i + ")", x.charge(i), y.charge(i));
        }
        Check.due("both anchors", x.anchors(), 2);
        Check.due("again", x.replay(), 4);
        Check.due("twice as long", x.status(5), 2 * 668);
        Check.due("one undo for all of a text", x.undo(), 1);
        Check.due("undone", x.status(5), 668);
        x.append('1');
        Check.due("the text grows", x.replay(), -10 - 48);
        Check.due("an error saves nothing", x.undo(), 0);
        Check.due("undo leaves the text", x.clearText(), 48);
        Check.due("an empty text", x.replay(), 0);
        Check.due("it is saved all the same", x.undo(), 0);
        StringBuilder most = new StringBuilder();
        for (int i = 0; i < 20; i++) {
            most.append("0,0,1;");
        }
        dueReplay(most.toString(), 20);
    }
}
