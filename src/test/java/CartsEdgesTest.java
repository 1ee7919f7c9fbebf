import java.util.function.Supplier;

/** Promises 7 to 13: a test for each sentence of the document that names a boundary case. */
public final class CartsEdgesTest {
    private static final Class<IllegalArgumentException> ARGUMENT = IllegalArgumentException.class;
    private static final Class<IllegalStateException> STATE = IllegalStateException.class;
    private static final Class<IndexOutOfBoundsException> INDEX = IndexOutOfBoundsException.class;
    private static final int LEAST = Integer.MIN_VALUE;
    private static final int MOST = Integer.MAX_VALUE;

    public static void main(String[] args) {
        livelyStateIsAsTold();
        ticksOfTheTable();
        noSuchTickOfTheTable();
        fogOf0To9();
        badTickComesBeforeBadFog();
        fewestAndMostPlaces();
        leastAndMostThatItBears();
        noSuchBridge();
        notWithACartOnIt();
        cartsElsewhereDoNotMatter();
        badBridgeComesFirst();
        tollsOf0To9();
        noSuchTolls();
        changeGoesRound();
        leastAndGreatestCarts();
        noSuchCarts();
        sixteenCartsAtMost();
        badCartComesFirst();
        endOfTheQueue();
        fullWeightsOfTen();
        leastAndGreatestTolls();
        placesFromTheEnd0();
        numbersOfCarts();
        answersOfCarts();
        stateOfEachCart();
        emptyQueue();
        fullQueue();
        noSuchQueue();
        looksChangeNothing();
        Check.finish("CartsEdgesTest");
    }

    /** The refusals are tried in this state, so it must hold a cart of each kind. */
    private static void livelyStateIsAsTold() {
        FogBridge x = States.lively();
        int[] due = {5, 3, 6, 2, 2, 1, 1, 0, 150, 6, 150};
        for (int what = 0; what < due.length; what++) {
            Check.is("lively: count(" + what + ")", x.count(what), due[what]);
        }
        int[] states = {2, 3, 1, 1, 0, 0};
        for (int cart = 0; cart < states.length; cart++) {
            Check.is("lively: cart(" + cart + ", 5)", x.cart(cart, 5), states[cart]);
        }
        FogBridge y = States.done();
        Check.is("done: nobody waits", y.count(3), 0);
        Check.is("done: nobody is on it", y.count(4), 0);
        Check.isTrue("done: some are over", y.count(5) > 0);
        Check.isTrue("done: some are turned away", y.count(6) > 0);
    }

    // Promise 7: "a tick of the table, 0 to 19"; "the fog before"
    private static void ticksOfTheTable() {
        FogBridge x = new FogBridge();
        for (int tick = 0; tick < 20; tick++) {
            Check.is("at first", x.setFog(tick, tick % 9 + 1), 0);
        }
        for (int tick = 0; tick < 20; tick++) {
            Check.is("each has its own", x.setFog(tick, 0), tick % 9 + 1);
        }
        Check.is("0 again", x.setFog(0, 7), 0);
        Check.is("the same again", x.setFog(0, 7), 7);
        Check.is("and again", x.setFog(0, 7), 7);
    }

    // Promise 7: "if tick is not 0 to 19"
    private static void noSuchTickOfTheTable() {
        for (int tick : new int[] {-1, 20, 21, LEAST, MOST}) {
            Check.refuses("setFog(" + tick + ", 4)", INDEX, States::lively, y -> y.setFog(tick, 4));
        }
    }

    // Terms, Fog: "how thick it is, 0 to 9"; promise 7: "if fog is not 0 to 9"
    private static void fogOf0To9() {
        FogBridge x = new FogBridge();
        for (int fog = 0; fog <= 9; fog++) {
            Check.is("one less before", x.setFog(19, fog), Math.max(fog - 1, 0));
        }
        for (int fog : new int[] {-1, 10, 11, LEAST, MOST}) {
            Check.refuses("setFog(0, " + fog + ")", ARGUMENT, States::lively, y -> y.setFog(0, fog));
            Check.refuses("setFog(19, " + fog + ")", ARGUMENT, States::lively, y -> y.setFog(19, fog));
        }
    }

    // Promise 7 and Terms: the exception that is named first
    private static void badTickComesBeforeBadFog() {
        for (int tick : new int[] {-1, 20}) {
            Check.refuses("setFog(" + tick + ", -1)", INDEX, States::lively, y -> y.setFog(tick, -1));
            Check.refuses("setFog(" + tick + ", 10)", INDEX, States::lively, y -> y.setFog(tick, 10));
        }
    }

    // Terms, Bridge: "It has 4 to 30 places (10, at first)"
    private static void fewestAndMostPlaces() {
        FogBridge x = new FogBridge();
        Check.is("at first", x.count(9), 10);
        x.rebuild(4, 200);
        Check.is("the fewest", x.count(9), 4);
        x.rebuild(30, 200);
        Check.is("the most", x.count(9), 30);
    }

    // Terms, Bridge: "it bears 10 to 500 (200, at first)"; promise 8: "Returns what it bore"
    private static void leastAndMostThatItBears() {
        FogBridge x = new FogBridge();
        Check.is("at first", x.rebuild(10, 10), 200);
        Check.is("the least", x.rebuild(10, 500), 10);
        Check.is("the most", x.rebuild(10, 499), 500);
        Check.is("in the end", x.count(10), 499);
    }

    // Promise 8: "if places is not 4 to 30, or bears is not 10 to 500"
    private static void noSuchBridge() {
        Supplier<FogBridge> start = States::full;
        for (int places : new int[] {3, 31, 0, -4, LEAST, MOST}) {
            Check.refuses(places + " places", ARGUMENT, start, y -> y.rebuild(places, 10));
            Check.refuses(places + " places", ARGUMENT, start, y -> y.rebuild(places, 500));
        }
        for (int bears : new int[] {9, 501, 0, -10, LEAST, MOST}) {
            Check.refuses("bears " + bears, ARGUMENT, start, y -> y.rebuild(4, bears));
            Check.refuses("bears " + bears, ARGUMENT, start, y -> y.rebuild(30, bears));
        }
        Check.refuses("both", ARGUMENT, start, y -> y.rebuild(3, 9));
    }

    // Promise 8: "if a cart is on it"
    private static void notWithACartOnIt() {
        Check.refuses("two on it", STATE, States::lively, y -> y.rebuild(7, 160));
        Check.refuses("as it is", STATE, States::lively, y -> y.rebuild(6, 150));
        Supplier<FogBridge> first = () -> {
            FogBridge x = new FogBridge();
            States.light(x, 0, 3);
            x.pass(1);
            return x;
        };
        Check.refuses("one on the first place", STATE, first, y -> y.rebuild(4, 10));
        Supplier<FogBridge> last = () -> {
            FogBridge x = new FogBridge();
            States.light(x, 0, 3);
            x.pass(4);
            return x;
        };
        Check.is("it is on the last place", last.get().cart(0, 6), 9);
        Check.refuses("one on the last place", STATE, last, y -> y.rebuild(30, 500));
        Supplier<FogBridge> back = () -> {
            FogBridge x = first.get();
            x.pass(1);
            x.change();
            x.pass(3);
            return x;
        };
        Check.is("it went back to the first place", back.get().cart(0, 6), 0);
        Check.refuses("one on its way back", STATE, back, y -> y.rebuild(4, 10));
    }

    // Promise 8: on the bridge, not anywhere else
    private static void cartsElsewhereDoNotMatter() {
        Check.is("all wait", States.full().rebuild(5, 50), 200);
        Check.is("all are over or turned away", States.done().rebuild(5, 50), 200);
        FogBridge x = new FogBridge();
        States.light(x, 0, 3);
        x.pass(1);
        x.change();
        x.pass(1);
        Check.is("it waits again", x.rebuild(4, 10), 200);
        x.change();
        x.pass(3);
        Check.is("it is over", x.rebuild(30, 500), 10);
    }

    // Promise 8 and Terms: the exception that is named first
    private static void badBridgeComesFirst() {
        Check.refuses("3 places, a cart on it", ARGUMENT, States::lively, y -> y.rebuild(3, 150));
        Check.refuses("31 places, a cart on it", ARGUMENT, States::lively, y -> y.rebuild(31, 150));
        Check.refuses("bears 9, a cart on it", ARGUMENT, States::lively, y -> y.rebuild(6, 9));
        Check.refuses("bears 501, a cart on it", ARGUMENT, States::lively, y -> y.rebuild(6, 501));
    }

    // Terms, Bridge: "0 to 9 coins for each axle, and 0 to 9 for each full 10 of weight (1 and 1, at first)"
    private static void tollsOf0To9() {
        FogBridge x = new FogBridge();
        Check.is("at first", x.setToll(0, 0), 11);
        Check.is("the least", x.setToll(9, 9), 0);
        Check.is("the greatest", x.setToll(0, 9), 99);
        Check.is("the one", x.setToll(9, 0), 9);
        Check.is("the other one", x.setToll(1, 2), 90);
        Check.is("in the end", x.setToll(1, 2), 12);
    }

    // Promise 9: "if one of both is not 0 to 9"
    private static void noSuchTolls() {
        for (int toll : new int[] {-1, 10, 11, LEAST, MOST}) {
            Check.refuses("setToll(" + toll + ", 0)", ARGUMENT, States::lively, y -> y.setToll(toll, 0));
            Check.refuses("setToll(" + toll + ", 9)", ARGUMENT, States::lively, y -> y.setToll(toll, 9));
            Check.refuses("setToll(0, " + toll + ")", ARGUMENT, States::lively, y -> y.setToll(0, toll));
            Check.refuses("setToll(9, " + toll + ")", ARGUMENT, States::lively, y -> y.setToll(9, toll));
            Check.refuses("both " + toll, ARGUMENT, States::lively, y -> y.setToll(toll, toll));
        }
    }

    // Promise 10 and Terms, Bridge: "0 to the end 1, 1 to the end 0 (0, at first)"
    private static void changeGoesRound() {
        FogBridge x = States.lively();
        Check.is("at first", x.count(7), 0);
        for (int round = 0; round < 3; round++) {
            Check.is("to the end 0", x.change(), 1);
            Check.is("then", x.count(7), 1);
            Check.is("to the end 1", x.change(), 0);
            Check.is("then", x.count(7), 0);
        }
        Check.changesNothing("changing twice", States::lively, y -> {
            y.change();
            y.change();
        });
    }

    private static void isTaken(int end, int axles, int weight, int pace, int coins) {
        FogBridge x = new FogBridge();
        Check.is("come", x.come(end, axles, weight, pace, coins, false), 0);
        int[] due = {axles, weight, pace, coins, end, 0, -1};
        for (int what = 0; what < due.length; what++) {
            Check.is("cart(0, " + what + ")", x.cart(0, what), due[what]);
        }
        Check.is("it waits at its end", x.queue(end, 0), 0);
        Check.is("nobody does at the other one", x.box(1 - end, 3), 0);
    }

    // Terms, Carts: "1 to 4 axles, a weight, 1 to 200, a pace, 1 to 3, coins, 0 or more" (promise 11: to 100)
    private static void leastAndGreatestCarts() {
        isTaken(0, 1, 1, 1, 0);
        isTaken(1, 4, 200, 3, 100);
        isTaken(1, 1, 1, 1, 0);
        isTaken(0, 4, 200, 3, 100);
        isTaken(0, 4, 1, 3, 0);
        isTaken(1, 1, 200, 1, 100);
    }

    private static void isNotTaken(int end, int axles, int weight, int pace, int coins) {
        String call = "come(" + end + ", " + axles + ", " + weight + ", " + pace + ", " + coins + ")";
        Check.refuses(call, ARGUMENT, States::lively, y -> y.come(end, axles, weight, pace, coins, false));
        Check.refuses(call + " of a cheat", ARGUMENT, States::lively,
            y -> y.come(end, axles, weight, pace, coins, true));
    }

    // Promise 11: the first number beyond each bound, beside the least and beside the greatest of the others
    private static void noSuchCarts() {
        for (int end : new int[] {-1, 2, LEAST, MOST}) {
            isNotTaken(end, 1, 1, 1, 0);
            isNotTaken(end, 4, 200, 3, 100);
        }
        for (int axles : new int[] {0, 5, -1, LEAST, MOST}) {
            isNotTaken(0, axles, 1, 1, 0);
            isNotTaken(1, axles, 200, 3, 100);
        }
        for (int weight : new int[] {0, 201, -1, LEAST, MOST}) {
            isNotTaken(0, 1, weight, 1, 0);
            isNotTaken(1, 4, weight, 3, 100);
        }
        for (int pace : new int[] {0, 4, -1, LEAST, MOST}) {
            isNotTaken(0, 1, 1, pace, 0);
            isNotTaken(1, 4, 200, pace, 100);
        }
        for (int coins : new int[] {-1, 101, LEAST, MOST}) {
            isNotTaken(0, 1, 1, 1, coins);
            isNotTaken(1, 4, 200, 3, coins);
        }
    }

    // Terms, Carts: "There are at most 16, numbered likewise"; promise 11: "if there are 16"
    private static void sixteenCartsAtMost() {
        Supplier<FogBridge> fifteen = () -> {
            FogBridge x = new FogBridge();
            for (int cart = 0; cart < 15; cart++) {
                States.light(x, 0, 1);
            }
            return x;
        };
        FogBridge x = fifteen.get();
        Check.is("the 16th", x.come(1, 1, 1, 1, 0, false), 15);
        Check.is("the 16th waits", x.queue(1, 0), 15);
        Check.is("carts", x.count(2), 16);
        Check.refuses("the 17th", STATE, States::full, y -> y.come(0, 1, 1, 1, 0, false));
        Check.refuses("the 17th at the end 1", STATE, States::full, y -> y.come(1, 4, 200, 3, 100, true));
        Check.refuses("when all are over or turned away", STATE, States::done, y -> y.come(0, 1, 1, 1, 0, false));
    }

    // Promise 11 and Terms: the exception that is named first
    private static void badCartComesFirst() {
        Check.refuses("17th: end", ARGUMENT, States::full, y -> y.come(2, 1, 1, 1, 0, false));
        Check.refuses("17th: axles", ARGUMENT, States::full, y -> y.come(0, 0, 1, 1, 0, false));
        Check.refuses("17th: weight", ARGUMENT, States::full, y -> y.come(0, 1, 201, 1, 0, false));
        Check.refuses("17th: pace", ARGUMENT, States::full, y -> y.come(0, 1, 1, 4, 0, false));
        Check.refuses("17th: coins", ARGUMENT, States::full, y -> y.come(0, 1, 1, 1, -1, false));
    }

    // Promise 11: "come to the end of the queue of an end"
    private static void endOfTheQueue() {
        FogBridge x = States.lively();
        Check.is("come to the end 0", States.light(x, 0, 1), 6);
        Check.is("behind the one that waits", x.queue(0, 1), 6);
        Check.is("which stays first", x.queue(0, 0), 4);
        Check.is("come to the end 1", States.light(x, 1, 1), 7);
        Check.is("behind the one there", x.queue(1, 1), 7);
        x.change();
        x.pass(2);
        Check.is("one is back", x.cart(3, 5), 0);
        Check.is("come behind it", States.light(x, 0, 1), 8);
        int[] due = {3, 4, 6, 8};
        for (int index = 0; index < due.length; index++) {
            Check.is("queue(0, " + index + ")", x.queue(0, index), due[index]);
        }
    }

    // Terms: "for each full 10 of weight", "/ is cut towards 0"
    private static void fullWeightsOfTen() {
        int[] weights = {1, 9, 10, 11, 19, 20, 99, 100, 199, 200};
        int[] tens = {0, 0, 1, 1, 1, 2, 9, 10, 19, 20};
        FogBridge x = new FogBridge();
        x.setToll(0, 3);
        for (int cart = 0; cart < weights.length; cart++) {
            x.come(0, 4, weights[cart], 1, 100, false);
            Check.is("toll for the weight " + weights[cart], x.cart(cart, 7), 3 * tens[cart]);
        }
        x.pass(1);
        Check.is("nothing is paid for 1", x.cart(0, 3), 100);
        FogBridge y = new FogBridge();
        y.setToll(0, 3);
        y.come(0, 4, 199, 1, 100, false);
        y.pass(1);
        Check.is("19 tens are paid for 199", y.cart(0, 3), 100 - 57);
    }

    // Promise 12: "the toll for it by the tolls now, if it was honest"
    private static void leastAndGreatestTolls() {
        FogBridge x = new FogBridge();
        x.come(0, 4, 200, 1, 0, true);
        x.come(0, 1, 1, 1, 0, true);
        Check.is("at first", x.cart(0, 7), 4 + 20);
        Check.is("of the lightest", x.cart(1, 7), 1);
        x.setToll(9, 9);
        Check.is("the greatest", x.cart(0, 7), 36 + 180);
        Check.is("of the lightest", x.cart(1, 7), 9);
        x.setToll(0, 0);
        Check.is("the least", x.cart(0, 7), 0);
        x.pass(2);
        x.setToll(9, 9);
        Check.is("of one that paid already", x.cart(0, 7), 36 + 180);
    }

    // Terms, Bridge: places "numbered from 0 at the end 0", for the fewest and the most
    private static void placesFromTheEnd0() {
        for (int places : new int[] {4, 30}) {
            for (int end = 0; end <= 1; end++) {
                FogBridge x = new FogBridge();
                x.rebuild(places, 200);
                States.light(x, end, 1);
                Check.is("waiting it has none", x.cart(0, 6), -1);
                if (end == 1) {
                    x.change();
                }
                x.pass(1);
                Check.is("the first one", x.cart(0, 6), end == 0 ? 0 : places - 1);
                x.pass(1);
                Check.is("the second one", x.cart(0, 6), end == 0 ? 1 : places - 2);
                x.pass(places - 2);
                Check.is("the last one", x.cart(0, 6), end == 0 ? places - 1 : 0);
                Check.is("it is on it still", x.cart(0, 5), 1);
                x.pass(1);
                Check.is("beyond it has none", x.cart(0, 6), -1);
                Check.is("beyond it is over", x.cart(0, 5), 2);
            }
        }
    }

    // Promise 12: "if there is no such cart"
    private static void numbersOfCarts() {
        Check.is("the last of 16", States.full().cart(15, 1), 196);
        for (int cart : new int[] {-1, 16, 17, LEAST, MOST}) {
            Check.refuses("cart(" + cart + ", 0) of 16", INDEX, States::full, y -> y.cart(cart, 0));
        }
        Check.is("the last of 6", States.lively().cart(5, 1), 50);
        for (int cart : new int[] {-1, 6, 15, 16}) {
            Check.refuses("cart(" + cart + ", 8) of 6", INDEX, States::lively, y -> y.cart(cart, 8));
        }
    }

    // Promise 12: "or what is not 0 to 8"
    private static void answersOfCarts() {
        FogBridge x = States.lively();
        int[] first = {4, 35, 3, 91, 0, 2, -1, 18, 2};
        int[] third = {3, 60, 2, 45, 0, 1, 4, 21, -1};
        for (int what = 0; what <= 8; what++) {
            Check.is("cart(0, " + what + ")", x.cart(0, what), first[what]);
            Check.is("cart(2, " + what + ")", x.cart(2, what), third[what]);
        }
        for (int what : new int[] {-1, 9, 10, LEAST, MOST}) {
            Check.refuses("cart(0, " + what + ")", INDEX, States::lively, y -> y.cart(0, what));
            Check.refuses("cart(6, " + what + ")", INDEX, States::lively, y -> y.cart(6, what));
        }
    }

    // Promise 12: "its place on the bridge, -1 otherwise" and "the tick in which it was over, -1 if not yet"
    private static void stateOfEachCart() {
        FogBridge x = States.lively();
        int[] places = {-1, -1, 4, 1, -1, -1};
        int[] ticks = {2, -1, -1, -1, -1, -1};
        for (int cart = 0; cart < places.length; cart++) {
            Check.is("cart(" + cart + ", 6)", x.cart(cart, 6), places[cart]);
            Check.is("cart(" + cart + ", 8)", x.cart(cart, 8), ticks[cart]);
        }
        x.pass(1);
        Check.is("one more is over", x.cart(2, 5), 2);
        Check.is("in the tick before", x.cart(2, 8), x.count(0) - 1);
        x.pass(100);
        Check.is("its tick stays", x.cart(2, 8), 5);
        x.change();
        x.pass(100);
        Check.is("turned away ones have none", x.cart(1, 8), -1);
    }

    // Promise 13: "if ... there is no such place": what is empty
    private static void emptyQueue() {
        for (int end = 0; end <= 1; end++) {
            int asked = end;
            Check.refuses("at first", INDEX, States::fresh, y -> y.queue(asked, 0));
            Check.refuses("all are over or turned away", INDEX, States::done, y -> y.queue(asked, 0));
        }
    }

    // Promise 13: "a place in its queue, from 0": what is full, and the first number beyond
    private static void fullQueue() {
        Supplier<FogBridge> sixteen = () -> {
            FogBridge x = new FogBridge();
            for (int cart = 0; cart < 16; cart++) {
                x.come(1, 1, 1, 1, 0, false);
            }
            return x;
        };
        FogBridge x = sixteen.get();
        for (int index = 0; index < 16; index++) {
            Check.is("queue(1, " + index + ")", x.queue(1, index), index);
        }
        for (int index : new int[] {-1, 16, 17, LEAST, MOST}) {
            Check.refuses("queue(1, " + index + ")", INDEX, sixteen, y -> y.queue(1, index));
        }
        Check.refuses("nobody at the end 0", INDEX, sixteen, y -> y.queue(0, 0));
        for (int index : new int[] {-1, 1, 2, 15}) {
            Check.refuses("one at the end 0", INDEX, States::lively, y -> y.queue(0, index));
            Check.refuses("one at the end 1", INDEX, States::lively, y -> y.queue(1, index));
        }
    }

    // Promise 13: "if end is not 0 to 1"
    private static void noSuchQueue() {
        for (int end : new int[] {-1, 2, 3, LEAST, MOST}) {
            Check.refuses("queue(" + end + ", 0)", INDEX, States::lively, y -> y.queue(end, 0));
            Check.refuses("queue(" + end + ", 1)", INDEX, States::lively, y -> y.queue(end, 1));
        }
    }

    // calls that only tell, or set what is set already
    private static void looksChangeNothing() {
        for (int what = 0; what <= 8; what++) {
            int asked = what;
            Check.changesNothing("cart", States::lively, y -> y.cart(2, asked));
        }
        Check.changesNothing("queue", States::lively, y -> y.queue(1, 0));
        Check.changesNothing("the same fog", States::lively, y -> y.setFog(19, 9));
        Check.changesNothing("the same tolls", States::lively, y -> y.setToll(3, 2));
        Check.changesNothing("the same bridge", States::full, y -> y.rebuild(10, 200));
    }
}
