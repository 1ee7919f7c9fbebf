/** Compares answers with those that are due, and counts the wrong ones. */
final class Check {
    private static int compared = 0;
    private static int wrong = 0;

    private Check() {
    }

    static void is(String call, long got, long due) {
        compared++;
        if (got != due) {
            tellWrong(call + " answered " + got + ", due is " + due);
        }
    }

    static void isDouble(String call, double got, double due) {
        compared++;
        if (got != due) {
            tellWrong(call + " answered " + got + ", due is " + due);
        }
    }

    static void isTrue(String what, boolean got) {
        is(what, got ? 1 : 0, 1);
    }

    /** The call throws just this exception, and all that the object tells stays as it was. */
    static void refuses(FogBridge x, String call, Class<? extends RuntimeException> due, Runnable run) {
        compared++;
        String before = Picture.of(x);
        Class<?> got = null;
        try {
            run.run();
        } catch (RuntimeException e) {
            got = e.getClass();
        }
        if (got != due) {
            tellWrong(call + " threw " + got + ", due is " + due);
        }
        isTrue(call + " changes nothing", before.equals(Picture.of(x)));
    }

    static void tellWrong(String text) {
        wrong++;
        System.out.println(text);
    }

    static void finish(String name) {
        System.out.println(name + ": " + compared + " answers, " + wrong + " wrong");
        if (wrong != 0 || compared == 0) {
            System.exit(1);
        }
    }
}
