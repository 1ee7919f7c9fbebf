/** Promises 18 to 22, looking ahead, mean and digest; what is refused stands in AheadEdgesTest. */
public final class AheadTest {
    public static void main(String[] args) {
        promise18();
        promise18FarAhead();
        promise19();
        promise19LastTick();
        promise20();
        promise20AfterBuilding();
        promise21();
        promise22();
        nothingIsChanged();
        Check.finish("AheadTest");
    }

    private static void promise18() {
        FogBridge x = new FogBridge();
        x.come(0, 1, 10, 2, 100, false);
        x.come(0, 1, 10, 3, 0, false);
        x.come(1, 1, 10, 3, 100, false);
        Check.is("on at 1, over at 6", x.over(0), 6);
        Check.is("turned away", x.over(1), -1);
        Check.is("the other direction", x.over(2), -1);
        x.pass(5);
        Check.is("one tick more", x.over(0), 1);
        x.pass(1);
        Check.is("it is over", x.over(0), 0);
        x.pass(1);
        Check.is("it stays so", x.over(0), 0);
    }

    private static void promise18FarAhead() {
        FogBridge x = new FogBridge();
        x.rebuild(30, 200);
        for (int cart = 0; cart < 8; cart++) {
            x.come(0, 1, 200, 1, 100, false);
        }
        Check.is("one at a time, each in 30 ticks", x.over(0), 31);
        Check.is("the sixth", x.over(5), 181);
        Check.is("the seventh, behind 211 ticks", x.over(6), -1);
        x.pass(10);
        Check.is("behind 201", x.over(6), -1);
        x.pass(1);
        Check.is("behind 200", x.over(6), 200);
        x.pass(1);
        Check.is("behind 199", x.over(6), 199);
    }

    private static void promise19() {
        FogBridge x = new FogBridge();
        x.come(0, 1, 10, 1, 100, false);
        Check.is("no change is better", x.keep(), -1);
        x.come(1, 1, 10, 1, 100, false);
        Check.is("the fewest ticks that let both over", x.keep(), 11);
        FogBridge y = new FogBridge();
        y.come(1, 1, 10, 1, 100, false);
        Check.is("at once", y.keep(), 0);
        y.change();
        Check.is("it goes over anyway", y.keep(), -1);
        FogBridge z = new FogBridge();
        z.come(0, 1, 10, 1, 100, false);
        z.come(1, 1, 10, 1, 100, false);
        z.come(1, 1, 10, 1, 100, false);
        z.pass(1);
        Check.is("three are over if kept for", z.keep(), 10);
    }

    private static void promise19LastTick() {
        FogBridge x = new FogBridge();
        x.rebuild(30, 200);
        x.come(0, 1, 10, 1, 100, false);
        x.come(1, 1, 10, 1, 100, false);
        Check.is("each takes 31 ticks", x.over(0), 31);
        Check.is("31 and 31 are too many", x.keep(), -1);
        x.pass(2);
        Check.is("29 and 31 fill the 60 ticks", x.keep(), 29);
        x.pass(1);
        Check.is("one tick later", x.keep(), 28);
        FogBridge y = new FogBridge();
        y.rebuild(4, 200);
        y.come(1, 1, 10, 3, 100, false);
        for (int cart = 0; cart < 10; cart++) {
            y.come(0, 1, 200, 1, 100, false);
        }
        Check.is("all ten first", y.keep(), 41);
        FogBridge z = new FogBridge();
        z.rebuild(6, 200);
        z.come(1, 1, 10, 3, 100, false);
        for (int cart = 0; cart < 12; cart++) {
            z.come(0, 1, 200, 1, 100, false);
        }
        Check.is("nine and the one of the other end", z.keep(), 55);
    }

    private static void promise20() {
        FogBridge x = new FogBridge();
        x.come(0, 2, 45, 2, 30, false);
        x.come(0, 4, 100, 1, 11, true);
        x.come(0, 1, 60, 1, 50, false);
        x.come(0, 1, 60, 1, 6, false);
        x.come(1, 1, 60, 1, 50, false);
        Check.is("over in 1", x.foresee(1, 0), 0);
        Check.is("coins in 1", x.foresee(1, 1), 6);
        Check.is("on the bridge in 1", x.foresee(1, 2), 1);
        Check.is("over in 6", x.foresee(6, 0), 1);
        Check.is("coins in 6", x.foresee(6, 1), 17 + 7);
        Check.is("on the bridge in 6", x.foresee(6, 2), 2);
        Check.is("over in 100", x.foresee(100, 0), 3);
        Check.is("on the bridge in 100", x.foresee(100, 2), 0);
        x.pass(6);
        Check.is("only those over from now on", x.foresee(100, 0), 2);
        Check.is("only coins from now on", x.foresee(100, 1), 0);
        x.change();
        Check.is("into the box of the end 1", x.foresee(100, 1), 7);
        x.empty(0);
        Check.is("the same when a box is emptied", x.foresee(100, 1), 7);
    }

    private static void promise20AfterBuilding() {
        FogBridge x = new FogBridge();
        x.come(0, 2, 30, 3, 100, false);
        x.come(0, 1, 30, 3, 100, false);
        Check.is("by the tolls at first", x.foresee(2, 1), 5 + 4);
        Check.is("both on it", x.foresee(2, 2), 2);
        x.setToll(4, 7);
        Check.is("by the tolls now", x.foresee(2, 1), 8 + 21 + 4 + 21);
        x.rebuild(4, 59);
        Check.is("by what it bears now", x.foresee(2, 2), 1);
        Check.is("by its places now", x.over(0), 3);
    }

    private static void promise21() {
        FogBridge x = new FogBridge();
        x.rebuild(4, 200);
        x.come(0, 1, 10, 3, 100, false);
        x.come(0, 1, 10, 1, 0, false);
        x.come(0, 1, 10, 3, 100, false);
        x.come(0, 1, 10, 2, 100, false);
        Check.isDouble("none yet", x.mean(), 0.0);
        x.pass(3);
        Check.isDouble("one", x.mean(), 2.0);
        x.pass(2);
        Check.isDouble("two", x.mean(), 3.0);
        x.pass(50);
        Check.is("ticks", x.cart(3, 8), 5);
        Check.isDouble("three", x.mean(), 11.0 / 3);
    }

    private static void promise22() {
        FogBridge x = new FogBridge();
        long d = 683;
        int[] plain = {0, 0, 0, 0, 0, 0, 0, 0, 0, 10, 200};
        for (int n : plain) {
            d = d * 31 + n;
        }
        for (int i = 0; i < 20 + 8; i++) {
            d = d * 31;
        }
        Check.is("digest of a new object", x.digest(), d);
        x.addSignal(12);
        x.addSignal(2);
        for (int tick = 0; tick < 20; tick++) {
            x.setFog(tick, tick % 7);
        }
        x.come(0, 1, 20, 2, 50, true);
        x.come(1, 2, 30, 1, 50, false);
        x.come(0, 3, 190, 1, 50, false);
        x.come(0, 3, 190, 1, 50, false);
        x.pass(3);
        Check.is("digest in the end", x.digest(), summed(x));
    }

    private static long summed(FogBridge x) {
        int[] numbers = {3, 2, 4, 3, 1, 0, 0, 0, 20, 10, 200,
            12, 2,
            0, 1, 2, 3, 4, 5, 6, 0, 1, 2, 3, 4, 5, 6, 0, 1, 2, 3, 4, 5,
            3, 1, 1, 2, 2, 3,
            0, 0, 0, 1, 1,
            1, 20, 2, 47, 0, 1, 4, 3, -1,
            2, 30, 1, 50, 1, 0, -1, 5, -1,
            3, 190, 1, 50, 0, 0, -1, 22, -1,
            3, 190, 1, 50, 0, 0, -1, 22, -1};
        long d = 683;
        for (int n : numbers) {
            d = d * 31 + n;
        }
        return d;
    }

    private static void nothingIsChanged() {
        FogBridge x = new FogBridge();
        x.addSignal(12);
        x.come(0, 1, 20, 2, 50, true);
        x.come(1, 2, 30, 1, 50, false);
        x.come(0, 3, 190, 1, 50, false);
        x.pass(3);
        long before = x.digest();
        x.over(2);
        x.keep();
        x.foresee(100, 1);
        x.mean();
        x.heard(0);
        x.safe(0);
        x.rows(7);
        x.read(1212, 0);
        Check.is("looking changes nothing", x.digest(), before);
        Check.is("what the cheat kept", x.empty(0), 0);
        Check.is("the tolls", x.setToll(1, 1), 11);
    }
}
