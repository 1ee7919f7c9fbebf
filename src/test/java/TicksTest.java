/** Promises 14 to 17, boxes and ticks; what is refused stands in TicksEdgesTest. */
public final class TicksTest {
    public static void main(String[] args) {
        promise14();
        promise15();
        promise15GoingBack();
        promise16();
        goingOn();
        goingBack();
        goingBackAndOnAgain();
        comingOn();
        turnedAway();
        promise17();
        Check.finish("TicksTest");
    }

    private static void boxIs(String when, FogBridge x, int end, int... due) {
        for (int what = 0; what < due.length; what++) {
            Check.is(when + ": box(" + end + ", " + what + ")", x.box(end, what), due[what]);
        }
    }

    private static void placesAre(String when, FogBridge x, int... due) {
        for (int cart = 0; cart < due.length; cart++) {
            Check.is(when + ": cart(" + cart + ", 6)", x.cart(cart, 6), due[cart]);
        }
    }

    private static void promise14() {
        FogBridge x = new FogBridge();
        x.come(0, 3, 45, 3, 100, false);
        x.come(0, 4, 20, 3, 100, true);
        x.come(0, 4, 50, 3, 0, false);
        x.come(1, 2, 10, 3, 100, false);
        boxIs("at first", x, 0, 0, 0, 0, 3);
        boxIs("at first", x, 1, 0, 0, 0, 1);
        x.pass(2);
        boxIs("two paid", x, 0, 7 + 3, 2, 7, 1);
        x.pass(10);
        boxIs("one was turned away", x, 0, 10, 2, 7, 0);
        boxIs("nobody paid there", x, 1, 0, 0, 0, 1);
        x.change();
        x.pass(1);
        boxIs("one paid", x, 1, 3, 1, 2, 0);
        x.empty(0);
        boxIs("emptied", x, 0, 0, 2, 7, 0);
        boxIs("the other one is not", x, 1, 3, 1, 2, 0);
    }

    private static void promise15() {
        FogBridge x = new FogBridge();
        x.setToll(5, 1);
        x.come(0, 4, 10, 3, 100, true);
        x.come(0, 3, 10, 3, 100, true);
        x.come(0, 4, 10, 3, 100, false);
        x.come(0, 1, 10, 3, 100, true);
        x.come(0, 4, 99, 3, 3, true);
        x.pass(1);
        x.setToll(2, 9);
        x.pass(12);
        Check.is("one was turned away", x.cart(4, 5), 3);
        Check.is("coins in the box", x.box(0, 0), 6 + 11 + 17 + 11);
        Check.is("by the tolls that held", x.empty(0), 3 * 5 + 2 * 2);
        Check.is("coins after it", x.box(0, 0), 0);
        Check.is("none since", x.empty(0), 0);
        x.come(0, 2, 10, 3, 100, true);
        x.come(1, 3, 10, 3, 100, true);
        x.pass(2);
        Check.is("the other end", x.empty(1), 0);
        Check.is("since it was emptied", x.empty(0), 2);
        x.change();
        x.pass(8);
        Check.is("end 1", x.empty(1), 4);
    }

    private static void promise15GoingBack() {
        FogBridge x = new FogBridge();
        x.come(0, 4, 10, 1, 5, true);
        x.pass(2);
        Check.is("it paid", x.cart(0, 3), 3);
        x.change();
        x.pass(2);
        Check.is("it is back", x.cart(0, 5), 0);
        x.setToll(9, 9);
        x.change();
        x.pass(1);
        Check.is("it is on the bridge again", x.cart(0, 6), 0);
        Check.is("it does not pay anew", x.cart(0, 3), 3);
        boxIs("paid once", x, 0, 2, 1, 4, 0);
        Check.is("by the tolls when it paid", x.empty(0), 3);
    }

    private static void promise16() {
        FogBridge x = new FogBridge();
        x.rebuild(4, 100);
        x.come(0, 1, 10, 2, 100, false);
        x.come(0, 1, 10, 2, 100, false);
        x.come(0, 1, 10, 2, 100, false);
        Check.is("nobody yet", x.pass(2), 0);
        Check.is("one", x.pass(1), 1);
        Check.is("the others", x.pass(200), 2);
        Check.is("nobody more", x.pass(1), 0);
        Check.is("tick", x.count(0), 204);
    }

    private static void goingOn() {
        FogBridge x = new FogBridge();
        x.come(0, 1, 10, 1, 100, false);
        x.come(0, 1, 10, 3, 100, false);
        x.come(0, 1, 10, 2, 100, false);
        x.pass(1);
        placesAre("the first comes on", x, 0, -1, -1);
        x.pass(1);
        placesAre("the second comes on", x, 1, 0, -1);
        x.pass(1);
        placesAre("it is held up by the first", x, 2, 1, 0);
        x.pass(1);
        placesAre("each one by the one ahead", x, 3, 2, 1);
        x.pass(6);
        placesAre("before the end", x, 9, 8, 7);
        Check.is("the first is over, and the second, held up no more", x.pass(1), 2);
        placesAre("the third goes by its pace", x, -1, -1, 9);
        Check.is("the third is over", x.pass(1), 1);
        Check.is("tick of the first", x.cart(0, 8), 10);
        Check.is("tick of the second", x.cart(1, 8), 10);
        Check.is("tick of the third", x.cart(2, 8), 11);
    }

    private static void goingBack() {
        FogBridge x = new FogBridge();
        x.come(1, 1, 10, 3, 100, false);
        x.come(1, 1, 10, 2, 100, false);
        x.come(0, 1, 10, 3, 100, false);
        x.come(1, 1, 10, 1, 100, false);
        x.change();
        x.pass(2);
        placesAre("two on the bridge", x, 6, 9, -1, -1);
        x.change();
        x.pass(1);
        placesAre("back by 1, whatever the pace", x, 7, -1, -1, -1);
        Check.is("first in the queue again", x.queue(1, 0), 1);
        Check.is("ahead of the one behind", x.queue(1, 1), 3);
        Check.is("nobody comes on meanwhile", x.cart(2, 5), 0);
        x.pass(2);
        placesAre("not back yet", x, 9, -1, -1, -1);
        x.pass(1);
        placesAre("the other comes on as it leaves", x, -1, -1, 0, -1);
        Check.is("it is first then", x.queue(1, 0), 0);
        Check.is("the later one behind it", x.queue(1, 1), 1);
        Check.is("then the last one", x.queue(1, 2), 3);
    }

    private static void goingBackAndOnAgain() {
        FogBridge x = new FogBridge();
        x.come(0, 1, 10, 2, 100, false);
        x.come(0, 1, 10, 2, 100, false);
        x.pass(4);
        placesAre("two on the bridge", x, 6, 4);
        x.change();
        x.pass(3);
        placesAre("on the way back", x, 3, 1);
        x.change();
        x.pass(1);
        placesAre("on again", x, 5, 3);
        Check.is("both are over", x.pass(10), 2);
        boxIs("paid once each", x, 0, 4, 2, 2, 0);
    }

    private static void comingOn() {
        FogBridge x = new FogBridge();
        x.rebuild(10, 100);
        x.come(0, 1, 60, 1, 100, false);
        x.come(0, 1, 41, 1, 100, false);
        x.come(0, 1, 1, 1, 100, false);
        x.pass(5);
        Check.is("too heavy together", x.count(4), 1);
        Check.is("nobody passes by in the queue", x.queue(0, 0), 1);
        x.pass(5);
        Check.is("on the last place still", x.cart(0, 6), 9);
        x.pass(1);
        Check.is("as it leaves, the next one comes on", x.cart(1, 6), 0);
        FogBridge y = new FogBridge();
        y.rebuild(10, 100);
        y.come(0, 1, 60, 1, 100, false);
        y.come(0, 1, 40, 1, 100, false);
        y.pass(2);
        Check.is("just what it bears", y.count(8), 100);
        FogBridge z = new FogBridge();
        z.come(0, 1, 60, 1, 100, false);
        z.pass(1);
        z.change();
        z.come(1, 1, 10, 1, 100, false);
        z.pass(1);
        Check.is("onto its own place at the end 1", z.cart(1, 6), 9);
    }

    private static void turnedAway() {
        FogBridge x = new FogBridge();
        x.rebuild(10, 100);
        x.come(0, 2, 10, 1, 2, false);
        x.come(0, 2, 10, 1, 3, false);
        x.come(0, 4, 90, 1, 0, false);
        x.pass(1);
        Check.is("too few coins", x.cart(0, 5), 3);
        Check.is("nobody comes on in this tick", x.count(4), 0);
        x.pass(1);
        Check.is("just enough", x.cart(1, 5), 1);
        Check.is("none is left", x.cart(1, 3), 0);
        x.pass(2);
        Check.is("one that has room is asked", x.cart(2, 5), 3);
        FogBridge y = new FogBridge();
        y.rebuild(10, 100);
        y.come(0, 2, 20, 1, 50, false);
        y.come(0, 4, 90, 1, 0, false);
        y.pass(5);
        Check.is("one without room is not asked", y.cart(1, 5), 0);
        y.pass(10);
        Check.is("it is later", y.cart(1, 5), 3);
        FogBridge z = new FogBridge();
        z.come(0, 4, 100, 1, 11, true);
        z.come(0, 4, 90, 1, 9, true);
        z.come(0, 4, 100, 1, 15, false);
        z.pass(2);
        Check.is("a cheat needs the coins for one axle", z.cart(0, 5), 1);
        Check.is("but those", z.cart(1, 5), 3);
        z.setToll(0, 2);
        z.pass(1);
        Check.is("by the tolls then", z.cart(2, 5), 3);
    }

    private static void promise17() {
        FogBridge x = new FogBridge();
        x.addSignal(1);
        x.addSignal(2);
        x.rebuild(4, 150);
        x.come(0, 1, 30, 3, 100, false);
        x.come(0, 4, 30, 1, 0, false);
        x.come(0, 1, 60, 1, 100, false);
        x.come(0, 1, 70, 1, 100, false);
        x.come(0, 1, 70, 1, 100, false);
        x.come(1, 1, 70, 1, 100, false);
        x.pass(4);
        int[] due = {4, 2, 6, 2, 2, 1, 1, 0, 130, 4, 150};
        for (int what = 0; what < due.length; what++) {
            Check.is("count(" + what + ")", x.count(what), due[what]);
        }
        x.change();
        Check.is("the open direction", x.count(7), 1);
    }
}
