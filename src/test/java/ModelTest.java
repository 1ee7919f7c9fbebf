import java.util.function.LongSupplier;

/** Random runs of 512 calls, the same in every test run, each call answered like the model. */
public final class ModelTest {
    private static final int RUNS = 2000;
    private static final int CALLS = 512;

    private long seed;
    private final FogBridge x = new FogBridge();
    private final Model model = new Model();
    /** How often this run changes the bridge, 1 to 3: runs of many looks and runs of many changes. */
    private final int liveliness;

    private ModelTest(int run) {
        seed = run * 7919L + 17;
        liveliness = 1 + below(3);
    }

    public static void main(String[] args) {
        for (int run = 0; run < RUNS; run++) {
            ModelTest test = new ModelTest(run);
            for (int call = 0; call < CALLS; call++) {
                if (!test.oneCall(run, call)) {
                    break;
                }
            }
        }
        Check.finish("ModelTest");
    }

    private int below(int bound) {
        seed = seed * 6364136223846793005L + 1442695040888963407L;
        return (int) ((seed >>> 33) % bound);
    }

    /** A number from least to most; now and then one just outside, or far out. */
    private int about(int least, int most) {
        switch (below(60)) {
            case 0:
                return least - 1;
            case 1:
                return most + 1;
            case 2:
                return below(2) == 0 ? Integer.MIN_VALUE : Integer.MAX_VALUE;
            default:
                return least + below(most - least + 1);
        }
    }

    private int row(int most) {
        if (below(25) == 0) {
            int[] odd = {0, -1, 3, 10, 120, 102, 1111111111, 2111111111, 222222222, -21, 1111111, 1000000000};
            return odd[below(odd.length)];
        }
        int rings = 0;
        for (int left = 1 + below(most); left > 0; left--) {
            rings = rings * 10 + 1 + below(2);
        }
        return rings;
    }

    private static String answer(LongSupplier call) {
        try {
            return String.valueOf(call.getAsLong());
        } catch (RuntimeException e) {
            return e.getClass().getName();
        }
    }

    private boolean same(String name, LongSupplier got, LongSupplier due) {
        String dueText = answer(due);
        String gotText = answer(got);
        Check.isTrue(name + " answered " + gotText + ", the model " + dueText, gotText.equals(dueText));
        return gotText.equals(dueText);
    }

    private boolean oneCall(int run, int call) {
        String name = "run " + run + ", call " + call + ": ";
        if (below(4) < liveliness) {
            return below(5) == 0 ? setting(name) : moving(name);
        }
        return below(4) == 0 ? codeLook(name) : below(3) == 0 ? farLook(name) : look(name);
    }

    private boolean setting(String name) {
        switch (below(4)) {
            case 0: {
                int rings = row(6);
                return same(name + "addSignal " + rings, () -> x.addSignal(rings), () -> model.addSignal(rings));
            }
            case 1: {
                int tick = about(0, 19);
                int fog = about(0, 9);
                return same(name + "setFog", () -> x.setFog(tick, fog), () -> model.setFog(tick, fog));
            }
            case 2: {
                int places = below(2) == 0 ? about(4, 8) : about(4, 30);
                int bears = below(2) == 0 ? about(10, 100) : about(10, 500);
                return same(name + "rebuild", () -> x.rebuild(places, bears), () -> model.rebuild(places, bears));
            }
            default: {
                int axle = below(3) > 0 ? about(0, 3) : about(0, 9);
                int ten = below(3) > 0 ? about(0, 2) : about(0, 9);
                return same(name + "setToll", () -> x.setToll(axle, ten), () -> model.setToll(axle, ten));
            }
        }
    }

    private boolean moving(String name) {
        switch (below(8)) {
            case 0:
            case 1: {
                int end = about(0, 1);
                int axles = about(1, 4);
                int weight = below(2) == 0 ? about(1, 40) : about(1, 200);
                int pace = about(1, 3);
                int coins = about(0, 100);
                boolean isCheat = below(3) == 0;
                return same(name + "come", () -> x.come(end, axles, weight, pace, coins, isCheat),
                    () -> model.come(end, axles, weight, pace, coins, isCheat));
            }
            case 2:
                return same(name + "change", () -> x.change(), () -> model.change());
            case 3: {
                int end = about(0, 1);
                return below(4) > 0 || same(name + "empty", () -> x.empty(end), () -> model.empty(end));
            }
            default: {
                int ticks = below(30) == 0 ? about(1, 200) : 1 + below(4);
                return same(name + "pass", () -> x.pass(ticks), () -> model.pass(ticks));
            }
        }
    }

    private boolean codeLook(String name) {
        switch (below(4)) {
            case 0: {
                int rings = row(9);
                int what = about(0, 2);
                return same(name + "read " + rings, () -> x.read(rings, what), () -> model.read(rings, what));
            }
            case 1: {
                int signal = about(0, 7);
                return same(name + "heard", () -> x.heard(signal), () -> model.heard(signal));
            }
            case 2: {
                int signal = about(0, 7);
                return same(name + "safe", () -> x.safe(signal), () -> model.safe(signal));
            }
            default: {
                int length = below(8) == 0 ? about(0, 20) : about(0, 9);
                return same(name + "rows", () -> x.rows(length), () -> model.rows(length));
            }
        }
    }

    private boolean farLook(String name) {
        switch (below(4)) {
            case 0: {
                int cart = about(0, 15);
                return same(name + "over", () -> x.over(cart), () -> model.over(cart));
            }
            case 1:
                return below(3) > 0 || same(name + "keep", () -> x.keep(), () -> model.keep());
            case 2: {
                int ticks = about(1, 100);
                int what = about(0, 2);
                return same(name + "foresee", () -> x.foresee(ticks, what), () -> model.foresee(ticks, what));
            }
            default:
                return same(name + "mean", () -> Double.doubleToLongBits(x.mean()),
                    () -> Double.doubleToLongBits(model.mean()));
        }
    }

    private boolean look(String name) {
        switch (below(5)) {
            case 0: {
                int cart = about(0, 15);
                int what = about(0, 8);
                return same(name + "cart", () -> x.cart(cart, what), () -> model.cart(cart, what));
            }
            case 1: {
                int end = about(0, 1);
                int index = about(0, 7);
                return same(name + "queue", () -> x.queue(end, index), () -> model.queue(end, index));
            }
            case 2: {
                int end = about(0, 1);
                int what = about(0, 3);
                return same(name + "box", () -> x.box(end, what), () -> model.box(end, what));
            }
            case 3: {
                int what = about(0, 10);
                return same(name + "count", () -> x.count(what), () -> model.count(what));
            }
            default:
                return same(name + "digest", () -> x.digest(), () -> model.digest());
        }
    }
}
