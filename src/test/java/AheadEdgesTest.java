import java.util.function.Supplier;

/** Promises 18 to 22: a test for each sentence of the document that names a boundary case. */
public final class AheadEdgesTest {
    private static final Class<IllegalArgumentException> ARGUMENT = IllegalArgumentException.class;
    private static final Class<IndexOutOfBoundsException> INDEX = IndexOutOfBoundsException.class;
    private static final int LEAST = Integer.MIN_VALUE;
    private static final int MOST = Integer.MAX_VALUE;

    public static void main(String[] args) {
        overAlready();
        overBehindTheFewestTicks();
        overBehind200Ticks();
        neverOver();
        noSuchCart();
        keepForTheMostTicks();
        keepForNone();
        keepTheFewestOfSeveral();
        keepWithoutGain();
        keepBehind60Ticks();
        keepWithThoseThatWentBack();
        keepWithThoseOverAlready();
        foreseeTheFewestTicks();
        foreseeTheMostTicks();
        foreseeNothing();
        noSuchTicksToForesee();
        noSuchAnswerToForesee();
        badTicksComeFirst();
        meanOfNone();
        meanOfSome();
        meanOfAll();
        digestOfANewObject();
        digestWrapsAround();
        digestOfTheFullObject();
        looksChangeNothing();
        Check.finish("AheadEdgesTest");
    }

    private static FogBridge bridge(int places, int bears) {
        FogBridge x = new FogBridge();
        x.rebuild(places, bears);
        return x;
    }

    /** Carts that cannot be on this bridge together: each comes on as the one ahead is over. */
    private static void comeHeavy(FogBridge x, int end, int carts, int pace) {
        for (int cart = 0; cart < carts; cart++) {
            x.come(end, 1, 200, pace, 100, false);
        }
    }

    // Promise 18: "0 if it is"
    private static void overAlready() {
        FogBridge x = States.lively();
        Check.is("the one that is over", x.over(0), 0);
        x.change();
        x.pass(200);
        Check.is("it stays so", x.over(0), 0);
    }

    // Promise 18: "behind how many ticks it is over": the fewest there are
    private static void overBehindTheFewestTicks() {
        FogBridge x = bridge(4, 200);
        States.light(x, 0, 3);
        Check.is("from the queue", x.over(0), 3);
        x.pass(1);
        Check.is("from the first place", x.over(0), 2);
        x.pass(1);
        Check.is("from the last place", x.over(0), 1);
        x.pass(1);
        Check.is("beyond it", x.over(0), 0);
    }

    // Promise 18: "at most 200; -1 if not by then"
    private static void overBehind200Ticks() {
        FogBridge x = bridge(30, 200);
        comeHeavy(x, 0, 7, 1);
        Check.is("the sixth of 30 ticks each", x.over(5), 181);
        Check.is("behind 211", x.over(6), -1);
        x.pass(9);
        Check.is("behind 202", x.over(6), -1);
        x.pass(1);
        Check.is("behind 201", x.over(6), -1);
        x.pass(1);
        Check.is("behind 200", x.over(6), 200);
        x.pass(1);
        Check.is("behind 199", x.over(6), 199);
        Check.is("so it is", x.pass(198), 6);
        Check.is("in the last tick", x.pass(1), 1);
    }

    // Promise 18: -1 for who waits for ever, was turned away or goes back
    private static void neverOver() {
        FogBridge x = States.lively();
        Check.is("turned away", x.over(1), -1);
        Check.is("at the other end", x.over(5), -1);
        x.change();
        Check.is("on its way back", x.over(2), -1);
        Check.is("in the queue of the end that is closed now", x.over(4), -1);
        Check.isTrue("at the end that is open now", x.over(5) > 0);
        FogBridge y = bridge(4, 10);
        y.come(0, 1, 11, 1, 100, false);
        y.come(0, 1, 10, 1, 100, false);
        Check.is("too heavy", y.over(0), -1);
        Check.is("behind one that is too heavy", y.over(1), -1);
        FogBridge z = new FogBridge();
        z.come(0, 1, 10, 1, 1, false);
        Check.is("it will be turned away", z.over(0), -1);
    }

    // Promise 18: "if there is no such cart"
    private static void noSuchCart() {
        Check.is("the last of 16", States.full().over(15), -1);
        for (int cart : new int[] {-1, 16, 17, LEAST, MOST}) {
            Check.refuses("over(" + cart + ") of 16", INDEX, States::full, y -> y.over(cart));
        }
        for (int cart : new int[] {-1, 6, 15, 16}) {
            Check.refuses("over(" + cart + ") of 6", INDEX, States::lively, y -> y.over(cart));
        }
    }

    // Promise 19: "0 to 59": no run is gained by a change behind 58 or 59 ticks, as three are the fewest
    // from the queue to beyond the last place; 57 is the most that is ever best
    private static void keepForTheMostTicks() {
        FogBridge x = bridge(4, 200);
        comeHeavy(x, 0, 14, 1);
        x.come(1, 1, 200, 3, 100, false);
        Check.is("the 14th is over behind 57 ticks", x.over(13), 57);
        Check.is("three are left for the one at the end 1", x.keep(), 57);
        FogBridge y = bridge(5, 200);
        comeHeavy(y, 0, 11, 1);
        y.come(0, 1, 200, 2, 100, false);
        y.come(1, 1, 200, 3, 100, false);
        Check.is("the 12th is over behind 59 ticks", y.over(11), 59);
        Check.is("one left is too few", y.keep(), -1);
    }

    // Promise 19: the least
    private static void keepForNone() {
        FogBridge x = new FogBridge();
        States.light(x, 1, 1);
        Check.is("nobody on this side", x.keep(), 0);
        FogBridge y = new FogBridge();
        y.change();
        States.light(y, 0, 1);
        Check.is("the other way round", y.keep(), 0);
        FogBridge z = new FogBridge();
        States.light(z, 0, 1);
        States.light(z, 1, 1);
        States.light(z, 1, 1);
        States.light(z, 1, 1);
        z.rebuild(30, 200);
        Check.is("three there, one here", z.keep(), 0);
    }

    // Promise 19: "of several the fewest ticks"
    private static void keepTheFewestOfSeveral() {
        FogBridge x = new FogBridge();
        States.light(x, 1, 3);
        Check.is("any tick up to 55 would do", x.keep(), 0);
        FogBridge y = new FogBridge();
        States.light(y, 0, 1);
        States.light(y, 1, 1);
        Check.is("11 to 49 would do", y.keep(), 11);
        y.pass(1);
        Check.is("10 then", y.keep(), 10);
    }

    // Promise 19: "-1 if there are never more over than without a change"
    private static void keepWithoutGain() {
        Check.is("no carts", new FogBridge().keep(), -1);
        FogBridge x = new FogBridge();
        States.light(x, 0, 1);
        Check.is("nobody on the other side", x.keep(), -1);
        FogBridge y = bridge(30, 200);
        States.light(y, 0, 1);
        States.light(y, 1, 1);
        Check.is("one or the other", y.keep(), -1);
        FogBridge z = new FogBridge();
        z.come(1, 1, 10, 1, 1, false);
        Check.is("one that will be turned away", z.keep(), -1);
        Check.is("all are over or turned away", States.done().keep(), -1);
    }

    // Promise 19: "behind 60 ticks in all"
    private static void keepBehind60Ticks() {
        FogBridge x = bridge(30, 200);
        States.light(x, 0, 1);
        States.light(x, 1, 1);
        x.pass(1);
        Check.is("30 and 31 ticks are too many", x.keep(), -1);
        x.pass(1);
        Check.is("29 and 31 are just 60", x.keep(), 29);
        FogBridge y = bridge(30, 200);
        comeHeavy(y, 1, 2, 1);
        States.light(y, 0, 3);
        Check.is("the second would be over behind 61", y.keep(), 11);
    }

    // Promise 19: those on their way back are turned round by the change
    private static void keepWithThoseThatWentBack() {
        FogBridge x = bridge(30, 200);
        States.light(x, 0, 1);
        x.pass(30);
        Check.is("on the last place", x.cart(0, 6), 29);
        x.change();
        Check.is("changed back at once", x.keep(), 0);
        FogBridge y = new FogBridge();
        States.light(y, 0, 1);
        States.light(y, 1, 3);
        y.pass(10);
        y.change();
        Check.is("back in 10, the other one over in 4 more, then this one", y.keep(), 14);
    }

    // Promise 19: only who is over from now on counts, with and without a change
    private static void keepWithThoseOverAlready() {
        FogBridge x = bridge(4, 200);
        for (int cart = 0; cart < 5; cart++) {
            States.light(x, 0, 3);
        }
        x.pass(20);
        Check.is("five are over", x.count(5), 5);
        States.light(x, 1, 3);
        Check.is("one more by a change", x.keep(), 0);
        FogBridge y = bridge(4, 200);
        y.come(0, 1, 10, 3, 100, false);
        y.pass(3);
        y.come(0, 1, 10, 3, 100, false);
        Check.is("no more by a change", y.keep(), -1);
    }

    // Promise 20: "how many, 1 to 100": the least
    private static void foreseeTheFewestTicks() {
        FogBridge x = States.lively();
        Check.is("one is over in 1", x.foresee(1, 0), 1);
        Check.is("one comes on in 1", x.foresee(1, 1), 12);
        Check.is("on the bridge behind 1", x.foresee(1, 2), 2);
        Check.is("two are over in 5", x.foresee(5, 0), 3);
        Check.is("none is on it behind 5", x.foresee(5, 2), 0);
    }

    // Promise 20: the greatest
    private static void foreseeTheMostTicks() {
        FogBridge x = bridge(30, 200);
        comeHeavy(x, 0, 4, 1);
        x.setToll(9, 0);
        Check.is("three in 100", x.foresee(100, 0), 3);
        Check.is("the fourth is on it", x.foresee(100, 2), 1);
        Check.is("four paid", x.foresee(100, 1), 36);
        x.pass(20);
        Check.is("the fourth behind 101", x.foresee(100, 0), 3);
        x.pass(1);
        Check.is("the fourth behind 100", x.foresee(100, 0), 4);
        Check.is("none is on it", x.foresee(100, 2), 0);
        Check.is("behind 99 it is", x.foresee(99, 2), 1);
    }

    // Promise 20: what is empty, and boxes that hold coins already
    private static void foreseeNothing() {
        for (int what = 0; what <= 2; what++) {
            Check.is("no carts", new FogBridge().foresee(1, what), 0);
            Check.is("all are over or turned away", States.done().foresee(100, what), 0);
        }
        FogBridge x = States.lively();
        Check.is("45 coins are in the box", x.box(0, 0), 45);
        Check.is("only what comes into it", x.foresee(100, 1), 12);
        x.change();
        Check.is("the other box, and who has paid already", x.foresee(100, 1), 13);
        x.empty(0);
        Check.is("the same from an empty box", x.foresee(100, 1), 13);
    }

    // Promise 20: "if ticks is not 1 to 100"
    private static void noSuchTicksToForesee() {
        for (int ticks : new int[] {0, 101, -1, 102, 200, LEAST, MOST}) {
            for (int what = 0; what <= 2; what++) {
                int asked = what;
                Check.refuses("foresee(" + ticks + ", " + what + ")", ARGUMENT, States::lively,
                    y -> y.foresee(ticks, asked));
            }
        }
    }

    // Promise 20: "if what is not 0 to 2"
    private static void noSuchAnswerToForesee() {
        for (int what : new int[] {-1, 3, 4, LEAST, MOST}) {
            Check.refuses("foresee(1, " + what + ")", INDEX, States::lively, y -> y.foresee(1, what));
            Check.refuses("foresee(100, " + what + ")", INDEX, States::lively, y -> y.foresee(100, what));
        }
    }

    // Promise 20 and Terms: the exception that is named first
    private static void badTicksComeFirst() {
        for (int what : new int[] {-1, 3}) {
            Check.refuses("foresee(0, " + what + ")", ARGUMENT, States::lively, y -> y.foresee(0, what));
            Check.refuses("foresee(101, " + what + ")", ARGUMENT, States::lively, y -> y.foresee(101, what));
        }
    }

    // Promise 21: "0 if none are"
    private static void meanOfNone() {
        Check.isDouble("no carts", new FogBridge().mean(), 0.0);
        Check.isDouble("all wait", States.full().mean(), 0.0);
        FogBridge x = new FogBridge();
        x.come(0, 1, 10, 1, 0, false);
        States.light(x, 0, 1);
        x.pass(5);
        Check.isDouble("one turned away, one on the bridge", x.mean(), 0.0);
    }

    // Promise 21: the mean is no whole number
    private static void meanOfSome() {
        Check.isDouble("one", States.lively().mean(), 2.0);
        FogBridge x = States.lively();
        x.pass(1);
        Check.isDouble("two", x.mean(), 3.5);
        x.pass(4);
        Check.is("the third", x.cart(3, 8), 9);
        Check.is("the fourth", x.cart(4, 8), 9);
        Check.isDouble("four", x.mean(), 25.0 / 4);
    }

    // Promise 21: all that there are, in the latest ticks
    private static void meanOfAll() {
        FogBridge x = bridge(4, 500);
        for (int call = 0; call < 400; call++) {
            x.pass(200);
        }
        for (int cart = 0; cart < 16; cart++) {
            x.come(0, 1, 1, 3, 100, false);
        }
        x.pass(200);
        Check.is("the first", x.cart(0, 8), 80002);
        Check.is("the last", x.cart(15, 8), 80017);
        Check.isDouble("16 of them", x.mean(), 80009.5);
    }

    private static long mixed(long start, int... numbers) {
        long d = start;
        for (int number : numbers) {
            d = d * 31 + number;
        }
        return d;
    }

    // Promise 22: "A number d starts with 683": what is empty adds nothing but its fixed numbers
    private static void digestOfANewObject() {
        long d = mixed(683, 0, 0, 0, 0, 0, 0, 0, 0, 0, 10, 200);
        d = mixed(d, new int[20]);
        Check.is("a new object", new FogBridge().digest(), mixed(d, new int[8]));
    }

    // Promise 22: "which wraps around as a 64-bit integer": the whole sum, cut to its last 64 bits
    private static void digestWrapsAround() {
        java.math.BigInteger sum = java.math.BigInteger.valueOf(683);
        int[] numbers = new int[11 + 20 + 8];
        numbers[9] = 10;
        numbers[10] = 200;
        for (int number : numbers) {
            sum = sum.multiply(java.math.BigInteger.valueOf(31)).add(java.math.BigInteger.valueOf(number));
        }
        Check.isTrue("more than 64 bits", sum.bitLength() > 64);
        Check.is("the last 64 of them", new FogBridge().digest(), sum.longValue());
    }

    // Promise 22: "the following numbers", with as many of each kind as there are
    private static void digestOfTheFullObject() {
        for (FogBridge x : new FogBridge[] {States.full(), States.done(), States.lively()}) {
            int[] fog = new int[20];
            if (x.count(1) == 3) {
                fog[5] = 8;
                fog[19] = 9;
            }
            int[] signals = x.count(1) == 3 ? new int[] {12, 2111, 222222}
                : new int[] {111, 112, 121, 122, 211, 212, 221, 2221};
            long d = 683;
            for (int what = 0; what <= 10; what++) {
                d = mixed(d, x.count(what));
            }
            d = mixed(mixed(d, signals), fog);
            for (int end = 0; end <= 1; end++) {
                d = mixed(d, x.box(end, 0), x.box(end, 1), x.box(end, 2), x.box(end, 3));
                for (int index = 0; index < x.box(end, 3); index++) {
                    d = mixed(d, x.queue(end, index));
                }
            }
            for (int cart = 0; cart < x.count(2); cart++) {
                for (int what = 0; what <= 8; what++) {
                    d = mixed(d, x.cart(cart, what));
                }
            }
            Check.is("all in their order", x.digest(), d);
        }
    }

    // Promises 18 to 20: "nothing is changed"
    private static void looksChangeNothing() {
        Supplier<FogBridge> back = () -> {
            FogBridge x = States.lively();
            x.change();
            x.pass(1);
            return x;
        };
        for (Supplier<FogBridge> start : java.util.List.<Supplier<FogBridge>>of(States::lively, States::full, back)) {
            Check.changesNothing("over", start, y -> y.over(4));
            Check.changesNothing("keep", start, y -> y.keep());
            Check.changesNothing("foresee(.., 0)", start, y -> y.foresee(100, 0));
            Check.changesNothing("foresee(.., 1)", start, y -> y.foresee(100, 1));
            Check.changesNothing("foresee(.., 2)", start, y -> y.foresee(1, 2));
            Check.changesNothing("mean", start, y -> y.mean());
            Check.changesNothing("digest", start, y -> y.digest());
        }
    }
}
