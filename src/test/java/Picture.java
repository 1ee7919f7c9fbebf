/** Writes out all that an object holds, so that two of them can be compared; it is used up by that. */
final class Picture {
    private Picture() {
    }

    /** Without the looks ahead, so that one of these that changed something is not hidden by them. */
    static String inUse(FogBridge x) {
        StringBuilder text = new StringBuilder();
        appendState(x, text);
        appendUse(x, text);
        return text.toString();
    }

    static String ahead(FogBridge x) {
        StringBuilder text = new StringBuilder();
        for (int signal = 0; signal < x.count(1); signal++) {
            text.append(x.heard(signal)).append(' ').append(x.safe(signal)).append(' ');
        }
        for (int length = 0; length <= 20; length++) {
            text.append(x.rows(length)).append(' ');
        }
        for (int cart = 0; cart < x.count(2); cart++) {
            text.append(x.over(cart)).append(' ');
        }
        for (int what = 0; what <= 2; what++) {
            text.append(x.foresee(1, what)).append(' ').append(x.foresee(100, what)).append(' ');
        }
        text.append(x.keep()).append(' ').append(x.mean()).append(' ').append(x.digest());
        return text.toString();
    }

    private static void appendState(FogBridge x, StringBuilder text) {
        for (int what = 0; what <= 10; what++) {
            text.append(x.count(what)).append(' ');
        }
        for (int cart = 0; cart < x.count(2); cart++) {
            for (int what = 0; what <= 8; what++) {
                text.append(x.cart(cart, what)).append(' ');
            }
        }
        for (int end = 0; end <= 1; end++) {
            for (int what = 0; what <= 3; what++) {
                text.append(x.box(end, what)).append(' ');
            }
            for (int index = 0; index < x.box(end, 3); index++) {
                text.append(x.queue(end, index)).append(' ');
            }
        }
        text.append(x.digest()).append('\n');
    }

    /** What no look tells: the tolls, what cheats kept back, who is a cheat and who has paid. */
    private static void appendUse(FogBridge x, StringBuilder text) {
        text.append(x.empty(0)).append(' ').append(x.empty(1)).append(' ').append(x.setToll(4, 1));
        for (int round = 0; round < 4; round++) {
            text.append(' ').append(x.pass(9)).append(' ').append(x.digest()).append(' ').append(x.change());
        }
        text.append(' ').append(x.pass(100)).append(' ').append(x.digest());
        text.append(' ').append(x.empty(0)).append(' ').append(x.empty(1));
    }
}
