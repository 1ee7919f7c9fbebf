/** Promises 2 to 6, the code; what is empty or refused, and promise 1, stand in CodeEdgesTest. */
public final class CodeTest {
    public static void main(String[] args) {
        promise2();
        promise2Full();
        promise3();
        promise3LongRows();
        promise4();
        promise4TableGoesRound();
        promise5();
        promise6();
        Check.finish("CodeTest");
    }

    private static void promise2() {
        FogBridge x = States.withSignals(1, 21, 222222);
        Check.is("a row that only ends like one", x.addSignal(2221), 3);
        Check.is("count(1)", x.count(1), 4);
    }

    private static void promise2Full() {
        FogBridge x = States.withSignals(111, 112, 121, 122, 211, 212, 221);
        Check.is("the eighth", x.addSignal(2221), 7);
        Check.is("count(1)", x.count(1), 8);
        Check.is("the last one is read", x.read(2221, 1), 7);
    }

    private static void promise3() {
        FogBridge x = States.withSignals(1, 21, 2211, 222);
        Check.is("signals of 1 21 222", x.read(121222, 0), 3);
        Check.is("last of 1 21 222", x.read(121222, 1), 3);
        Check.is("left of 1 21 222", x.read(121222, 2), 0);
        Check.is("signals of 1 21 22", x.read(12122, 0), 2);
        Check.is("last of 1 21 22", x.read(12122, 1), 1);
        Check.is("left of 1 21 22", x.read(12122, 2), 2);
        Check.is("signals of 2212", x.read(2212, 0), 0);
        Check.is("last of 2212", x.read(2212, 1), -1);
        Check.is("left of 2212", x.read(2212, 2), 4);
        Check.is("reading stops though a signal follows", x.read(221221, 2), 6);
        Check.is("signals of the empty row", x.read(0, 0), 0);
        Check.is("last of the empty row", x.read(0, 1), -1);
        Check.is("left of the empty row", x.read(0, 2), 0);
        FogBridge empty = new FogBridge();
        Check.is("without signals", empty.read(12, 2), 2);
    }

    private static void promise3LongRows() {
        FogBridge x = States.withSignals(1, 222222, 21);
        Check.is("nine short", x.read(111111111, 0), 9);
        Check.is("nine long", x.read(222222222, 0), 1);
        Check.is("nine long, left", x.read(222222222, 2), 3);
        Check.is("nine, last", x.read(122222221, 1), 2);
    }

    private static void promise4() {
        FogBridge x = States.withSignals(121212, 22, 11);
        Check.is("no fog", x.heard(0), 121212);
        x.setFog(0, 3);
        x.setFog(1, 6);
        x.setFog(2, 4);
        x.setFog(3, 7);
        x.setFog(4, 9);
        Check.is("short below 4, long below 7", x.heard(0), 122);
        Check.is("two long", x.heard(1), 22);
        Check.is("two short", x.heard(2), 1);
        x.pass(3);
        Check.is("nothing is heard", x.heard(1), 0);
        Check.is("later the first ones are lost", x.heard(0), 1212);
        Check.is("tick after it", x.count(0), 3);
    }

    private static void promise4TableGoesRound() {
        FogBridge x = States.withSignals(2121);
        x.setFog(0, 9);
        x.setFog(19, 4);
        x.pass(18);
        Check.is("over the end of the table", x.heard(0), 21);
        x.pass(80);
        Check.is("in a later round", x.heard(0), 21);
    }

    private static void promise5() {
        FogBridge x = States.withSignals(1, 21, 2211, 222, 2212);
        int[] safe = {1, 1, 2, 3, 3};
        for (int signal = 0; signal < safe.length; signal++) {
            Check.is("safe(" + signal + ")", x.safe(signal), safe[signal]);
        }
        FogBridge y = States.withSignals(111111);
        Check.is("six alike, alone", y.safe(0), 6);
        FogBridge z = States.withSignals(12, 11, 22, 2111, 2112);
        Check.is("safe(2111)", z.safe(3), 4);
        FogBridge w = States.withSignals(1, 2111);
        Check.is("three of four are safe", w.safe(1), 3);
        FogBridge v = States.withSignals(11, 2121, 21221, 22);
        Check.is("two of five make another signal", v.safe(2), 3);
    }

    private static void promise6() {
        FogBridge x = States.withSignals(1, 2);
        Check.is("all rows of 20", x.rows(20), 1 << 20);
        Check.is("all rows of 1", x.rows(1), 2);
        FogBridge y = States.withSignals(12, 11, 22, 2111, 2112);
        int[] rows = {1, 0, 3, 0, 11, 0, 39};
        for (int length = 0; length < rows.length; length++) {
            Check.is("rows(" + length + ")", y.rows(length), rows[length]);
        }
        FogBridge z = States.withSignals(111111);
        Check.is("rows(5) of one of 6", z.rows(5), 0);
        Check.is("rows(6) of one of 6", z.rows(6), 1);
        Check.is("rows(20) of one of 6", z.rows(20), 0);
        FogBridge w = States.withSignals(1, 21);
        Check.is("rows(20) by 1 and 2 rings", w.rows(20), 10946);
        Check.is("rows(0)", w.rows(0), 1);
        w.addSignal(221);
        Check.is("after one more signal", w.rows(4), 7);
    }
}
