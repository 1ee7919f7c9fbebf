/** Writes out all that an object tells without being changed. */
final class Picture {
    private Picture() {
    }

    static String of(FogBridge x) {
        StringBuilder text = new StringBuilder();
        for (int what = 0; what <= 10; what++) {
            text.append(x.count(what)).append(' ');
        }
        for (int signal = 0; signal < x.count(1); signal++) {
            text.append(x.heard(signal)).append(' ').append(x.safe(signal)).append(' ');
        }
        for (int cart = 0; cart < x.count(2); cart++) {
            for (int what = 0; what <= 8; what++) {
                text.append(x.cart(cart, what)).append(' ');
            }
            text.append(x.over(cart)).append(' ');
        }
        for (int end = 0; end <= 1; end++) {
            for (int what = 0; what <= 3; what++) {
                text.append(x.box(end, what)).append(' ');
            }
            for (int index = 0; index < x.box(end, 3); index++) {
                text.append(x.queue(end, index)).append(' ');
            }
        }
        for (int what = 0; what <= 2; what++) {
            text.append(x.foresee(100, what)).append(' ');
        }
        text.append(x.keep()).append(' ').append(x.mean()).append(' ').append(x.digest());
        return text.toString();
    }
}
