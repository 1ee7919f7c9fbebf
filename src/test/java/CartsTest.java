/** Promises 7 to 13, fog, bridge and carts; what is refused stands in CartsEdgesTest. */
public final class CartsTest {
    public static void main(String[] args) {
        promise7();
        promise8();
        promise9();
        promise10();
        promise11();
        promise12();
        promise12States();
        promise13();
        Check.finish("CartsTest");
    }

    private static void promise7() {
        FogBridge x = new FogBridge();
        x.addSignal(1);
        for (int tick = 0; tick < 20; tick++) {
            Check.is("setFog: before", x.setFog(tick, tick % 10), 0);
        }
        for (int tick = 0; tick < 20; tick++) {
            Check.is("setFog: then", x.setFog(tick, 9), tick % 10);
        }
        Check.is("the table is used", x.heard(0), 0);
    }

    private static void promise8() {
        FogBridge x = new FogBridge();
        Check.is("rebuild: 200 before", x.rebuild(4, 10), 200);
        Check.is("rebuild: 10 before", x.rebuild(30, 500), 10);
        Check.is("places", x.count(9), 30);
        Check.is("bears", x.count(10), 500);
        x.come(0, 1, 10, 3, 100, false);
        Check.is("one that waits does not matter", x.rebuild(4, 20), 500);
        x.pass(1);
        x.pass(2);
        Check.is("it is over", x.cart(0, 5), 2);
        Check.is("free again", x.rebuild(5, 50), 20);
    }

    private static void promise9() {
        FogBridge x = new FogBridge();
        Check.is("setToll: 1 and 1 before", x.setToll(9, 4), 11);
        Check.is("setToll: 9 and 4 before", x.setToll(0, 9), 94);
        Check.is("setToll: 0 and 9 before", x.setToll(3, 2), 9);
        x.come(0, 4, 29, 1, 100, false);
        x.pass(1);
        Check.is("the toll is paid", x.box(0, 0), 4 * 3 + 2 * 2);
    }

    private static void promise10() {
        FogBridge x = new FogBridge();
        x.come(1, 1, 1, 1, 100, false);
        x.pass(1);
        Check.is("closed for it", x.cart(0, 5), 0);
        Check.is("change", x.change(), 1);
        x.pass(1);
        Check.is("open for it", x.cart(0, 5), 1);
        Check.is("change again", x.change(), 0);
        Check.is("count(7)", x.count(7), 0);
    }

    private static void promise11() {
        FogBridge x = new FogBridge();
        for (int cart = 0; cart < 16; cart++) {
            boolean isLargest = cart % 2 == 0;
            int number = isLargest ? x.come(1, 4, 200, 3, 100, true) : x.come(0, 1, 1, 1, 0, false);
            Check.is("come", number, cart);
        }
        for (int index = 0; index < 8; index++) {
            Check.is("queue of the end 1", x.queue(1, index), 2 * index);
            Check.is("queue of the end 0", x.queue(0, index), 2 * index + 1);
        }
        x.pass(100);
    }

    private static void promise12() {
        FogBridge x = new FogBridge();
        x.come(0, 3, 57, 2, 41, true);
        x.come(1, 4, 200, 1, 99, false);
        int[] first = {3, 57, 2, 41, 0, 0, -1, 3 + 5, -1};
        int[] second = {4, 200, 1, 99, 1, 0, -1, 4 + 20, -1};
        for (int what = 0; what <= 8; what++) {
            Check.is("cart(0, " + what + ")", x.cart(0, what), first[what]);
            Check.is("cart(1, " + what + ")", x.cart(1, what), second[what]);
        }
        x.setToll(9, 7);
        Check.is("by the tolls now", x.cart(0, 7), 27 + 35);
    }

    private static void promise12States() {
        FogBridge x = new FogBridge();
        x.rebuild(4, 100);
        x.come(1, 2, 30, 3, 100, true);
        x.come(1, 1, 10, 1, 1, false);
        x.change();
        x.pass(1);
        Check.is("on the bridge", x.cart(0, 5), 1);
        Check.is("the first place of the end 1", x.cart(0, 6), 3);
        Check.is("a cheat paid for one axle", x.cart(0, 3), 100 - 1 - 3);
        x.pass(1);
        Check.is("its pace on", x.cart(0, 6), 0);
        Check.is("turned away", x.cart(1, 5), 3);
        Check.is("its place", x.cart(1, 6), -1);
        Check.is("its coins", x.cart(1, 3), 1);
        x.pass(1);
        Check.is("over", x.cart(0, 5), 2);
        Check.is("place when over", x.cart(0, 6), -1);
        Check.is("tick when over", x.cart(0, 8), 2);
        x.pass(5);
        Check.is("tick stays", x.cart(0, 8), 2);
        Check.is("turned away ones are never over", x.cart(1, 8), -1);
    }

    private static void promise13() {
        FogBridge x = new FogBridge();
        x.come(0, 1, 100, 1, 100, false);
        x.come(0, 1, 150, 1, 100, false);
        x.come(1, 1, 10, 1, 100, false);
        Check.is("first", x.queue(0, 0), 0);
        Check.is("second", x.queue(0, 1), 1);
        Check.is("other end", x.queue(1, 0), 2);
        x.pass(2);
        Check.is("the next one is first", x.queue(0, 0), 1);
        x.change();
        x.pass(2);
        Check.is("first again", x.queue(0, 0), 0);
        Check.is("ahead of the other one", x.queue(0, 1), 1);
    }
}
