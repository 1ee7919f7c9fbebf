import java.util.function.Supplier;

/** Promises 1 to 6: a test for each sentence of the document that names a boundary case. */
public final class CodeEdgesTest {
    private static final Class<IllegalArgumentException> ARGUMENT = IllegalArgumentException.class;
    private static final Class<IllegalStateException> STATE = IllegalStateException.class;
    private static final Class<IndexOutOfBoundsException> INDEX = IndexOutOfBoundsException.class;
    private static final int[] NO_WHAT = {-1, 3, 4, Integer.MIN_VALUE, Integer.MAX_VALUE};

    public static void main(String[] args) {
        newObjectIsEmpty();
        objectsAreApart();
        eightSignalsAtMost();
        oneToSixRings();
        digitsOneAndTwo();
        notTheSameRow();
        noneIsTheBeginningOfAnother();
        likeRowsThatAreAllowed();
        badRowComesFirst();
        oneToNineRingsAreRead();
        emptyRowIsRead();
        noRowIsNotRead();
        readAnswersAre0To2();
        badRowComesBeforeBadWhat();
        noSignalIsRead();
        ringsLeft();
        readingStopsWhereNoSignalBegins();
        shortRingsAndFog();
        longRingsAndFog();
        nothingIsHeard();
        tableWrapsAround();
        tableWrapsAroundFarAhead();
        noSuchSignalIsHeard();
        safeRingOfOne();
        fewestAndMostSafeRings();
        readAsOneOrMoreSignals();
        noSuchSignalIsSafe();
        rowsOfLength0();
        rowsOfLength20();
        rowsAroundTheLengthOfASignal();
        noSuchLength();
        looksChangeNothing();
        Check.finish("CodeEdgesTest");
    }

    // Promise 1 and Terms, "at first": what is empty in a new object
    private static void newObjectIsEmpty() {
        FogBridge x = new FogBridge();
        int[] counts = {0, 0, 0, 0, 0, 0, 0, 0, 0, 10, 200};
        for (int what = 0; what < counts.length; what++) {
            Check.is("new: count(" + what + ")", x.count(what), counts[what]);
        }
        for (int end = 0; end <= 1; end++) {
            for (int what = 0; what <= 3; what++) {
                Check.is("new: box", x.box(end, what), 0);
            }
            Check.is("new: empty", x.empty(end), 0);
        }
        for (int tick = 0; tick < 20; tick++) {
            Check.is("new: fog", x.setFog(tick, 0), 0);
        }
        Check.is("new: tolls", x.setToll(1, 1), 11);
        Check.is("new: keep", x.keep(), -1);
        Check.isDouble("new: mean", x.mean(), 0.0);
        for (int what = 0; what <= 2; what++) {
            Check.is("new: foresee", x.foresee(100, what), 0);
        }
        Check.is("new: pass", x.pass(200), 0);
        Check.refuses("heard(0)", INDEX, States::fresh, y -> y.heard(0));
        Check.refuses("safe(0)", INDEX, States::fresh, y -> y.safe(0));
        Check.refuses("cart(0, 0)", INDEX, States::fresh, y -> y.cart(0, 0));
        Check.refuses("over(0)", INDEX, States::fresh, y -> y.over(0));
        Check.refuses("queue(0, 0)", INDEX, States::fresh, y -> y.queue(0, 0));
        Check.refuses("queue(1, 0)", INDEX, States::fresh, y -> y.queue(1, 0));
    }

    // Promise 1: "Creates a bridge": one of its own
    private static void objectsAreApart() {
        FogBridge first = new FogBridge();
        FogBridge second = new FogBridge();
        String inUse = Picture.inUse(new FogBridge());
        String ahead = Picture.ahead(new FogBridge());
        FogBridge other = States.lively();
        other.keep();
        other.rows(20);
        Check.isTrue("made before others", Picture.inUse(first).equals(inUse));
        Check.isTrue("made before others, ahead", Picture.ahead(second).equals(ahead));
        Check.isTrue("made after others", Picture.inUse(new FogBridge()).equals(inUse));
        Check.isTrue("made after others, ahead", Picture.ahead(new FogBridge()).equals(ahead));
    }

    // Terms, Code: "There are at most 8 signals"; promise 2: "or there are 8"
    private static void eightSignalsAtMost() {
        FogBridge x = States.withEightSignals();
        Check.is("count(1) of 8", x.count(1), 8);
        Check.is("the eighth is read", x.read(2221, 1), 7);
        Check.is("the first one too", x.read(111, 1), 0);
        Check.refuses("the ninth", STATE, States::withEightSignals, y -> y.addSignal(2222));
        Check.refuses("the ninth of six rings", STATE, States::withEightSignals, y -> y.addSignal(222222));
        Check.refuses("the ninth, told already", STATE, States::withEightSignals, y -> y.addSignal(111));
    }

    // Terms, Code: "each is a row of 1 to 6 rings"; promise 2: "no number of 1 to 6 digits"
    private static void oneToSixRings() {
        for (int rings : new int[] {1, 2, 111111, 222222, 121212, 212121, 122221}) {
            FogBridge x = States.withSignals(rings);
            Check.is("told alone: " + rings, x.count(1), 1);
            Check.is("read: " + rings, x.read(rings, 0), 1);
            Check.is("heard: " + rings, x.heard(0), rings);
        }
        int[] noRows = {0, 1111111, 2222222, 1222222, 2111111, 11111111, 22222222, 111111111, 222222222, 1111111111,
            2111111111, 2122222222};
        for (int rings : noRows) {
            Check.refuses("addSignal(" + rings + ")", ARGUMENT, States::fresh, y -> y.addSignal(rings));
        }
    }

    // Promise 2: "1 or 2 each", the digits beside them in each place
    private static void digitsOneAndTwo() {
        int[] noRows = {3, 4, 9, 10, 13, 20, 23, 30, 31, 32, 101, 131, 202, 232, 100000, 300000, 111110, 111113, 301111,
            222220, 222223, 220222, 223222, -1, -2, -12, -222222, -1111111, Integer.MIN_VALUE, Integer.MAX_VALUE};
        for (int rings : noRows) {
            Check.refuses("addSignal(" + rings + ")", ARGUMENT, States::fresh, y -> y.addSignal(rings));
        }
    }

    // Terms, Code: "No two signals are the same row"
    private static void notTheSameRow() {
        Supplier<FogBridge> start = () -> States.withSignals(1, 21, 222222);
        for (int rings : new int[] {1, 21, 222222}) {
            Check.refuses("told again: " + rings, STATE, start, y -> y.addSignal(rings));
        }
    }

    // Terms, Code: "and none is the beginning of another one"
    private static void noneIsTheBeginningOfAnother() {
        Supplier<FogBridge> start = () -> States.withSignals(12, 211212, 22);
        for (int rings : new int[] {1, 2, 21, 211, 2112, 21121}) {
            Check.refuses("the beginning of one: " + rings, STATE, start, y -> y.addSignal(rings));
        }
        for (int rings : new int[] {121, 122, 121111, 222222, 221, 222}) {
            Check.refuses("one is its beginning: " + rings, STATE, start, y -> y.addSignal(rings));
        }
    }

    // Promise 2: nothing else is refused, however much alike
    private static void likeRowsThatAreAllowed() {
        FogBridge x = States.withSignals(12, 211212, 22);
        Check.is("only the last ring differs", x.addSignal(211211), 3);
        Check.is("only the first ring differs", x.addSignal(111212), 4);
        Check.is("it ends like another one", x.addSignal(1122), 5);
        Check.is("the next one of five rings", x.addSignal(21122), 6);
        Check.is("it is within another one", x.addSignal(1121), 7);
    }

    // Terms: "the exception that is named first is thrown"
    private static void badRowComesFirst() {
        Supplier<FogBridge> start = () -> States.withSignals(1);
        Check.refuses("no row, begun by a signal", ARGUMENT, start, y -> y.addSignal(13));
        Check.refuses("seven rings, begun by a signal", ARGUMENT, start, y -> y.addSignal(1111111));
        for (int rings : new int[] {0, 3, 1111111, 110, -111}) {
            Check.refuses("no row, when there are 8", ARGUMENT, States::withEightSignals, y -> y.addSignal(rings));
        }
    }

    // Promise 3: "a number of 1 to 9 digits, 1 or 2 each"
    private static void oneToNineRingsAreRead() {
        FogBridge x = States.withSignals(1, 21, 222222);
        Check.is("read(1)", x.read(1, 0), 1);
        Check.is("read(2)", x.read(2, 2), 1);
        Check.is("nine short ones are nine signals", x.read(111111111, 0), 9);
        Check.is("nine short ones, last", x.read(111111111, 1), 0);
        Check.is("nine short ones, left", x.read(111111111, 2), 0);
        Check.is("nine long ones are one signal", x.read(222222222, 0), 1);
        Check.is("nine long ones, last", x.read(222222222, 1), 2);
        Check.is("nine long ones, left", x.read(222222222, 2), 3);
        Check.is("eight rings", x.read(12122222, 2), 5);
    }

    // Promise 3: "0 for an empty one"
    private static void emptyRowIsRead() {
        FogBridge x = States.withSignals(1, 21);
        Check.is("read(0, 0)", x.read(0, 0), 0);
        Check.is("read(0, 1)", x.read(0, 1), -1);
        Check.is("read(0, 2)", x.read(0, 2), 0);
    }

    // Promise 3: "IllegalArgumentException if rings is no such number"
    private static void noRowIsNotRead() {
        int[] noRows = {-1, -2, -12, 3, 9, 10, 20, 13, 31, 101, 131, 120, 123, 1111111110, 1111111111, 2111111111,
            2122222222, 1000000000, 100000000, 300000000, 222222220, 222222223, 111101111, -111111111,
            Integer.MIN_VALUE, Integer.MAX_VALUE};
        for (int rings : noRows) {
            for (int what = 0; what <= 2; what++) {
                int asked = what;
                Check.refuses("read(" + rings + ", " + what + ")", ARGUMENT, States::lively, y -> y.read(rings, asked));
            }
        }
    }

    // Promise 3: "if what is not 0 to 2"
    private static void readAnswersAre0To2() {
        for (int what : NO_WHAT) {
            Check.refuses("read(12, " + what + ")", INDEX, States::lively, y -> y.read(12, what));
            Check.refuses("read(0, " + what + ")", INDEX, States::lively, y -> y.read(0, what));
        }
    }

    // Promise 3 and Terms: the exception that is named first
    private static void badRowComesBeforeBadWhat() {
        for (int what : NO_WHAT) {
            Check.refuses("read(3, " + what + ")", ARGUMENT, States::lively, y -> y.read(3, what));
            Check.refuses("read(-1, " + what + ")", ARGUMENT, States::lively, y -> y.read(-1, what));
            Check.refuses("ten rings, " + what, ARGUMENT, States::lively, y -> y.read(1111111111, what));
        }
    }

    // Promise 3: "1 the last one of these, -1 without one"
    private static void noSignalIsRead() {
        Check.is("no signals told", new FogBridge().read(12, 1), -1);
        Check.is("no signals told, none read", new FogBridge().read(12, 0), 0);
        FogBridge x = States.withSignals(12, 21);
        Check.is("none begins it", x.read(1112, 1), -1);
        Check.is("none begins it, none read", x.read(1112, 0), 0);
        Check.is("the row ends within a signal", x.read(1, 1), -1);
        Check.is("the signal 0", x.read(12, 1), 0);
        Check.is("the last one, not the greatest", x.read(2112, 1), 0);
    }

    // Promise 3: "how many rings are left where reading stops"
    private static void ringsLeft() {
        Check.is("no signals told, nine are left", new FogBridge().read(121212121, 2), 9);
        FogBridge x = States.withSignals(12, 211);
        Check.is("none is left", x.read(1221112, 2), 0);
        Check.is("one is left", x.read(121, 2), 1);
        Check.is("two are left", x.read(1221, 2), 2);
        Check.is("all are left", x.read(22, 2), 2);
        Check.is("seven of nine are left", x.read(122222222, 2), 7);
    }

    // Terms, Code: "if there is none, reading stops there"
    private static void readingStopsWhereNoSignalBegins() {
        FogBridge x = States.withSignals(12, 211);
        Check.is("a signal stands behind the gap", x.read(121112, 2), 4);
        Check.is("only those ahead of it are read", x.read(121112, 0), 1);
        Check.is("the last one of these", x.read(211112, 1), 1);
    }

    // Terms, Fog: "if the fog is less than n: a short one has 4"
    private static void shortRingsAndFog() {
        for (int fog = 0; fog <= 9; fog++) {
            FogBridge x = States.withSignals(1);
            x.setFog(0, fog);
            Check.is("a short ring in the fog " + fog, x.heard(0), fog <= 3 ? 1 : 0);
        }
    }

    // Terms, Fog: "a long one 7"
    private static void longRingsAndFog() {
        for (int fog = 0; fog <= 9; fog++) {
            FogBridge x = States.withSignals(2);
            x.setFog(0, fog);
            Check.is("a long ring in the fog " + fog, x.heard(0), fog <= 6 ? 2 : 0);
        }
    }

    // Promise 4: "the rings that are heard, as a number; 0 if none are"
    private static void nothingIsHeard() {
        FogBridge x = States.withSignals(121212, 222);
        Check.is("all six", x.heard(0), 121212);
        x.setFog(0, 4);
        Check.is("all but the first", x.heard(0), 21212);
        x.setFog(5, 7);
        Check.is("all but the first and the last", x.heard(0), 2121);
        x.setFog(2, 4);
        x.setFog(4, 4);
        Check.is("the long ones but the last", x.heard(0), 22);
        x.setFog(3, 9);
        Check.is("one", x.heard(0), 2);
        x.setFog(1, 7);
        Check.is("none of six", x.heard(0), 0);
        x.setFog(0, 6);
        Check.is("a long one where a short one is not", x.heard(1), 22);
    }

    // Terms, Fog: "in the tick t it is that with the number t by the remainder of 20"
    private static void tableWrapsAround() {
        FogBridge x = States.withSignals(222222, 1);
        x.setFog(0, 9);
        x.setFog(19, 5);
        x.pass(14);
        Check.is("the ticks 14 to 19", x.heard(0), 222222);
        x.pass(1);
        Check.is("the ticks 15 to 20", x.heard(0), 22222);
        x.pass(4);
        Check.is("the ticks 19 to 24", x.heard(0), 22222);
        Check.is("the tick 19", x.heard(1), 0);
        x.setFog(19, 0);
        Check.is("the tick 19 without fog", x.heard(1), 1);
        x.pass(1);
        Check.is("the tick 20", x.heard(1), 0);
        x.pass(1);
        Check.is("the tick 21", x.heard(1), 1);
        x.pass(19);
        Check.is("the tick 40", x.heard(1), 0);
    }

    // the same with the most ticks that 512 calls reach
    private static void tableWrapsAroundFarAhead() {
        FogBridge x = States.withSignals(1, 21);
        x.setFog(19, 9);
        for (int call = 0; call < 503; call++) {
            x.pass(200);
        }
        x.pass(199);
        Check.is("the tick then", x.count(0), 503 * 200 + 199);
        Check.is("19 by the remainder", x.heard(0), 0);
        Check.is("19 and 0 by the remainder", x.heard(1), 1);
    }

    // Promise 4: "if there is no such signal"
    private static void noSuchSignalIsHeard() {
        Check.is("the last of 8", States.withEightSignals().heard(7), 2221);
        for (int signal : new int[] {-1, 8, 9, Integer.MIN_VALUE, Integer.MAX_VALUE}) {
            Check.refuses("heard(" + signal + ") of 8", INDEX, States::withEightSignals, y -> y.heard(signal));
        }
        Check.is("the last of 3", States.lively().heard(2), 22222);
        for (int signal : new int[] {-1, 3, 7, 8}) {
            Check.refuses("heard(" + signal + ") of 3", INDEX, States::lively, y -> y.heard(signal));
        }
    }

    // Promise 5: "as one or more signals": what is left of one ring is none
    private static void safeRingOfOne() {
        Check.is("one ring, alone", States.withSignals(1).safe(0), 1);
        Check.is("one ring beside another one", States.withSignals(1, 2).safe(1), 1);
    }

    // Promise 5: "of how many of its rings": the least and the most
    private static void fewestAndMostSafeRings() {
        Check.is("all of six", States.withSignals(111111).safe(0), 6);
        Check.is("one of six", States.withSignals(222221, 22221).safe(0), 1);
        Check.is("one of two", States.withSignals(1, 21).safe(1), 1);
        Check.is("both of two", States.withSignals(21).safe(0), 2);
    }

    // Promise 5: "not read whole (with nothing left) as one or more signals"
    private static void readAsOneOrMoreSignals() {
        Check.is("without the first it is one signal", States.withSignals(2111, 111).safe(0), 3);
        Check.is("without the first it is three", States.withSignals(2111, 1).safe(0), 3);
        Check.is("without the first a ring is left", States.withSignals(2111, 11).safe(0), 4);
        Check.is("the first or the second", States.withSignals(2211, 21, 1).safe(0), 2);
        Check.is("without a ring in the middle", States.withSignals(21221, 2121).safe(0), 3);
    }

    // Promise 5: "if there is no such signal"
    private static void noSuchSignalIsSafe() {
        Check.is("the last of 8", States.withEightSignals().safe(7), 1);
        for (int signal : new int[] {-1, 8, 9, Integer.MIN_VALUE, Integer.MAX_VALUE}) {
            Check.refuses("safe(" + signal + ") of 8", INDEX, States::withEightSignals, y -> y.safe(signal));
        }
        for (int signal : new int[] {-1, 3, 7, 8}) {
            Check.refuses("safe(" + signal + ") of 3", INDEX, States::lively, y -> y.safe(signal));
        }
    }

    // Promise 6: "1 for the length 0"
    private static void rowsOfLength0() {
        Check.is("without signals", new FogBridge().rows(0), 1);
        Check.is("with some", States.withSignals(1, 2).rows(0), 1);
        Check.is("with 8", States.withEightSignals().rows(0), 1);
    }

    // Promise 6: "0 to 20", the greatest
    private static void rowsOfLength20() {
        Check.is("without signals", new FogBridge().rows(20), 0);
        Check.is("all rows there are", States.withSignals(1, 2).rows(20), 1 << 20);
        Check.is("of 19", States.withSignals(1, 2).rows(19), 1 << 19);
        Check.is("all rows by eight of three rings", States.withSignals(111, 112, 121, 122, 211, 212, 221, 222).rows(18),
            1 << 18);
        Check.is("none by these of 20", States.withSignals(111, 112, 121, 122, 211, 212, 221, 222).rows(20), 0);
        Check.is("one row", States.withSignals(2).rows(20), 1);
    }

    // Promise 6: "one or more signals, one behind the other, with nothing left"
    private static void rowsAroundTheLengthOfASignal() {
        FogBridge x = States.withSignals(121212);
        int[] rows = {1, 0, 0, 0, 0, 0, 1, 0, 0, 0, 0, 0, 1, 0};
        for (int length = 0; length < rows.length; length++) {
            Check.is("rows(" + length + ")", x.rows(length), rows[length]);
        }
        Check.is("none of 1 without signals", new FogBridge().rows(1), 0);
        x.addSignal(2);
        Check.is("with one more signal", x.rows(7), 3);
    }

    // Promise 6: "if length is not 0 to 20"
    private static void noSuchLength() {
        for (int length : new int[] {-1, 21, 22, Integer.MIN_VALUE, Integer.MAX_VALUE}) {
            Check.refuses("rows(" + length + ")", ARGUMENT, States::lively, y -> y.rows(length));
        }
    }

    // Promise 4: "nothing is changed", and so with the other looks at the code
    private static void looksChangeNothing() {
        Check.changesNothing("heard", States::lively, y -> y.heard(2));
        Check.changesNothing("safe", States::lively, y -> y.safe(1));
        Check.changesNothing("rows", States::lively, y -> y.rows(20));
        Check.changesNothing("read", States::lively, y -> y.read(122111222, 0));
    }
}
