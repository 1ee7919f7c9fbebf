import java.util.function.Consumer;
import java.util.function.Supplier;

/** Compares answers with those that are due, and counts the wrong ones. */
final class Check {
    private static int compared = 0;
    private static int wrong = 0;

    private Check() {
    }

    static void is(String call, long got, long due) {
        compared++;
        if (got != due) {
            tellWrong(call + " answered " + got + ", due is " + due);
        }
    }

    static void isDouble(String call, double got, double due) {
        compared++;
        if (Double.doubleToLongBits(got) != Double.doubleToLongBits(due)) {
            tellWrong(call + " answered " + got + ", due is " + due);
        }
    }

    static void isTrue(String what, boolean got) {
        is(what, got ? 1 : 0, 1);
    }

    /** The call throws just this exception, and its object is like one that never had the call. */
    static void refuses(String call, Class<? extends RuntimeException> due, Supplier<FogBridge> start,
            Consumer<FogBridge> run) {
        changesNothing(call, start, x -> {
            Class<?> got = thrownBy(run, x);
            isTrue(call + " threw " + got + ", due is " + due, got == due);
        });
    }

    /** The call's object is like one that never had the call. */
    static void changesNothing(String call, Supplier<FogBridge> start, Consumer<FogBridge> run) {
        FogBridge used = start.get();
        run.accept(used);
        isTrue(call + " changes nothing", Picture.inUse(used).equals(Picture.inUse(start.get())));
        FogBridge looked = start.get();
        run.accept(looked);
        isTrue(call + " changes nothing ahead", Picture.ahead(looked).equals(Picture.ahead(start.get())));
    }

    private static Class<?> thrownBy(Consumer<FogBridge> run, FogBridge x) {
        try {
            run.accept(x);
            return null;
        } catch (RuntimeException e) {
            return e.getClass();
        }
    }

    static void tellWrong(String text) {
        wrong++;
        System.out.println(text);
    }

    static void finish(String name) {
        System.out.println(name + ": " + compared + " answers, " + wrong + " wrong");
        if (wrong != 0 || compared == 0) {
            System.exit(1);
        }
    }
}
