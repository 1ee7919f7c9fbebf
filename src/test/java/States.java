/** States that tests start from, made anew each time. */
final class States {
    private static final int[] EIGHT = {111, 112, 121, 122, 211, 212, 221, 2221};

    private States() {
    }

    static FogBridge fresh() {
        return new FogBridge();
    }

    static FogBridge withSignals(int... signals) {
        FogBridge x = new FogBridge();
        for (int i = 0; i < signals.length; i++) {
            Check.is("addSignal(" + signals[i] + ")", x.addSignal(signals[i]), i);
        }
        return x;
    }

    static FogBridge withEightSignals() {
        return withSignals(EIGHT);
    }

    /** Ends the ticks with carts 2 and 3 on the bridge, 4 and 5 waiting, 0 over, 1 turned away. */
    static FogBridge lively() {
        FogBridge x = withSignals(12, 2111, 222222);
        x.setFog(5, 8);
        x.setFog(19, 9);
        x.setToll(3, 2);
        x.rebuild(6, 150);
        x.come(0, 4, 35, 3, 100, true);
        x.come(0, 2, 100, 1, 0, false);
        x.come(0, 3, 60, 2, 60, true);
        x.come(0, 1, 90, 1, 60, false);
        x.come(0, 2, 30, 2, 60, false);
        x.come(1, 2, 50, 2, 60, true);
        x.pass(5);
        return x;
    }

    /** 8 signals and 16 carts, all of them in the queues. */
    static FogBridge full() {
        FogBridge x = withEightSignals();
        for (int cart = 0; cart < 16; cart++) {
            Check.is("come", x.come(cart % 2, 1 + cart % 4, 1 + cart * 13, 1 + cart % 3, cart * 6, cart % 3 == 0), cart);
        }
        return x;
    }

    /** 16 carts, all of them over or turned away. */
    static FogBridge done() {
        FogBridge x = full();
        x.pass(200);
        x.change();
        x.pass(200);
        return x;
    }

    /** A light cart of this pace with coins enough. */
    static int light(FogBridge x, int end, int pace) {
        return x.come(end, 1, 10, pace, 100, false);
    }
}
