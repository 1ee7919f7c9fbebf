/** A toll bridge in fog: its code of bells, its carts and tolls, and what is to come. */
public final class FogBridge {
    private static final int NONE = -1;

    private static final int SHORT = 1;
    private static final int LONG = 2;
    private static final int MAX_INT_DIGITS = 10;
    private static final int MAX_SIGNALS = 8;
    private static final int MAX_SIGNAL_RINGS = 6;
    private static final int MAX_READ_RINGS = 9;
    private static final int MAX_COUNTED_RINGS = 20;

    private static final int FOG_TICKS = 20;
    private static final int MAX_FOG = 9;
    private static final int SHORT_CARRIES = 4;
    private static final int LONG_CARRIES = 7;

    private static final int ENDS = 2;
    private static final int MIN_PLACES = 4;
    private static final int MAX_PLACES = 30;
    private static final int MIN_BEARS = 10;
    private static final int MAX_BEARS = 500;
    private static final int MAX_TOLL = 9;
    private static final int TOLL_WEIGHT = 10;

    private static final int MAX_CARTS = 16;
    private static final int MAX_AXLES = 4;
    private static final int MAX_WEIGHT = 200;
    private static final int MAX_PACE = 3;
    private static final int MAX_COINS = 100;

    private static final int WAITS = 0;
    private static final int ON_BRIDGE = 1;
    private static final int OVER = 2;
    private static final int TURNED_AWAY = 3;

    private static final int READ_ANSWERS = 3;
    private static final int CART_ANSWERS = 9;
    private static final int BOX_ANSWERS = 4;
    private static final int COUNT_ANSWERS = 11;
    private static final int FORESEE_ANSWERS = 3;

    private static final int MAX_PASSED_TICKS = 200;
    private static final int OVER_TICKS = 200;
    private static final int KEEP_TICKS = 60;
    private static final int MAX_FORESEEN_TICKS = 100;
    private static final long DIGEST_START = 683;

    private final Code code = new Code();
    private final int[] fog = new int[FOG_TICKS];
    private final Bridge bridge = new Bridge();
    // Looking ahead plays on these two, made once, so that no call makes objects.
    private final Bridge ahead = new Bridge();
    private final Bridge branch = new Bridge();

    public FogBridge() {
    }

    // ---- the code

    public int addSignal(int rings) throws IllegalArgumentException, IllegalStateException {
        if (!isBetween(Rings.lengthOf(rings), 1, MAX_SIGNAL_RINGS)) {
            throw new IllegalArgumentException("rings is no number of 1 to 6 digits, 1 or 2 each");
        }
        if (code.isFull() || code.isAmbiguousWith(rings)) {
            throw new IllegalStateException("the code has no room for these rings");
        }
        return code.add(rings);
    }

    public int read(int rings, int what) throws IllegalArgumentException, IndexOutOfBoundsException {
        if (!isBetween(Rings.lengthOf(rings), 0, MAX_READ_RINGS)) {
            throw new IllegalArgumentException("rings is no row of up to 9 rings");
        }
        if (!isIndex(what, READ_ANSWERS)) {
            throw new IndexOutOfBoundsException("what is not 0 to 2");
        }
        return code.readRow(rings, what);
    }

    public int heard(int signal) throws IndexOutOfBoundsException {
        if (!isIndex(signal, code.size)) {
            throw new IndexOutOfBoundsException("there is no such signal");
        }
        return ringsHeard(code.ringsOf(signal), bridge.tick);
    }

    public int safe(int signal) throws IndexOutOfBoundsException {
        if (!isIndex(signal, code.size)) {
            throw new IndexOutOfBoundsException("there is no such signal");
        }
        return code.safeRings(code.ringsOf(signal));
    }

    public int rows(int length) throws IllegalArgumentException {
        if (!isBetween(length, 0, MAX_COUNTED_RINGS)) {
            throw new IllegalArgumentException("length is not 0 to 20");
        }
        return code.wholeRows(length);
    }

    // ---- fog, bridge, carts

    public int setFog(int tick, int fog) throws IndexOutOfBoundsException, IllegalArgumentException {
        if (!isIndex(tick, this.fog.length)) {
            throw new IndexOutOfBoundsException("tick is not 0 to 19");
        }
        if (!isBetween(fog, 0, MAX_FOG)) {
            throw new IllegalArgumentException("fog is not 0 to 9");
        }
        int before = this.fog[tick];
        this.fog[tick] = fog;
        return before;
    }

    public int rebuild(int places, int bears) throws IllegalArgumentException, IllegalStateException {
        if (!isBetween(places, MIN_PLACES, MAX_PLACES) || !isBetween(bears, MIN_BEARS, MAX_BEARS)) {
            throw new IllegalArgumentException("places is not 4 to 30, or bears is not 10 to 500");
        }
        if (bridge.crossing.size > 0) {
            throw new IllegalStateException("a cart is on the bridge");
        }
        int before = bridge.bears;
        bridge.places = places;
        bridge.bears = bears;
        return before;
    }

    public int setToll(int axle, int ten) throws IllegalArgumentException {
        if (!isBetween(axle, 0, MAX_TOLL) || !isBetween(ten, 0, MAX_TOLL)) {
            throw new IllegalArgumentException("a toll is not 0 to 9");
        }
        int before = 10 * bridge.axleToll + bridge.tenToll;
        bridge.axleToll = axle;
        bridge.tenToll = ten;
        return before;
    }

    public int change() {
        bridge.turn();
        return bridge.direction;
    }

    public int come(int end, int axles, int weight, int pace, int coins, boolean isCheat)
            throws IllegalArgumentException, IllegalStateException {
        if (!isIndex(end, ENDS) || !isBetween(axles, 1, MAX_AXLES) || !isBetween(weight, 1, MAX_WEIGHT)
                || !isBetween(pace, 1, MAX_PACE) || !isBetween(coins, 0, MAX_COINS)) {
            throw new IllegalArgumentException("no cart is like this");
        }
        Cart cart = bridge.newCart();
        if (cart == null) {
            throw new IllegalStateException("there are 16 carts");
        }
        cart.end = end;
        cart.axles = axles;
        cart.weight = weight;
        cart.pace = pace;
        cart.coins = coins;
        cart.isCheat = isCheat;
        bridge.gateAt(end).waiting.addLast(cart.number);
        return cart.number;
    }

    public int cart(int cart, int what) throws IndexOutOfBoundsException {
        Cart asked = bridge.cartAt(cart);
        if (asked == null || !isIndex(what, CART_ANSWERS)) {
            throw new IndexOutOfBoundsException("there is no such cart, or what is not 0 to 8");
        }
        return bridge.tellCart(asked, what);
    }

    public int queue(int end, int index) throws IndexOutOfBoundsException {
        if (!isIndex(end, ENDS) || !isIndex(index, bridge.gateAt(end).waiting.size)) {
            throw new IndexOutOfBoundsException("there is no such end, or no such place in its queue");
        }
        return bridge.gateAt(end).waiting.at(index);
    }

    // ---- boxes

    public int box(int end, int what) throws IndexOutOfBoundsException {
        if (!isIndex(end, ENDS) || !isIndex(what, BOX_ANSWERS)) {
            throw new IndexOutOfBoundsException("end is not 0 to 1, or what is not 0 to 3");
        }
        return bridge.gateAt(end).tell(what);
    }

    public int empty(int end) throws IndexOutOfBoundsException {
        if (!isIndex(end, ENDS)) {
            throw new IndexOutOfBoundsException("end is not 0 to 1");
        }
        Gate gate = bridge.gateAt(end);
        int kept = gate.keptByCheats;
        gate.coins = 0;
        gate.keptByCheats = 0;
        return kept;
    }

    // ---- ticks

    public int pass(int ticks) throws IllegalArgumentException {
        if (!isBetween(ticks, 1, MAX_PASSED_TICKS)) {
            throw new IllegalArgumentException("ticks is not 1 to 200");
        }
        return bridge.run(ticks);
    }

    public int count(int what) throws IndexOutOfBoundsException {
        if (!isIndex(what, COUNT_ANSWERS)) {
            throw new IndexOutOfBoundsException("what is not 0 to 10");
        }
        return countOf(what);
    }

    // ---- looking ahead

    public int over(int cart) throws IndexOutOfBoundsException {
        if (bridge.cartAt(cart) == null) {
            throw new IndexOutOfBoundsException("there is no such cart");
        }
        ahead.copyFrom(bridge);
        for (int ticks = 0; ticks <= OVER_TICKS; ticks++) {
            if (ahead.isOver(cart)) {
                return ticks;
            }
            ahead.run(1);
        }
        return NONE;
    }

    public int keep() {
        branch.copyFrom(bridge);
        int most = branch.run(KEEP_TICKS);
        int best = NONE;
        int overBefore = 0;
        ahead.copyFrom(bridge);
        for (int kept = 0; kept < KEEP_TICKS; kept++) {
            branch.copyFrom(ahead);
            branch.turn();
            int over = overBefore + branch.run(KEEP_TICKS - kept);
            if (over > most) {
                most = over;
                best = kept;
            }
            overBefore += ahead.run(1);
        }
        return best;
    }

    public int foresee(int ticks, int what) throws IllegalArgumentException, IndexOutOfBoundsException {
        if (!isBetween(ticks, 1, MAX_FORESEEN_TICKS)) {
            throw new IllegalArgumentException("ticks is not 1 to 100");
        }
        if (!isIndex(what, FORESEE_ANSWERS)) {
            throw new IndexOutOfBoundsException("what is not 0 to 2");
        }
        ahead.copyFrom(bridge);
        int over = ahead.run(ticks);
        switch (what) {
            case 0:
                return over;
            case 1:
                return ahead.coinsInBoxes() - bridge.coinsInBoxes();
            default:
                return ahead.crossing.size;
        }
    }

    public double mean() {
        return bridge.meanOverTick();
    }

    public long digest() {
        long sum = DIGEST_START;
        for (int what = 0; what < COUNT_ANSWERS; what++) {
            sum = mixed(sum, countOf(what));
        }
        sum = code.mixedInto(sum);
        for (int tick = 0; tick < fog.length; tick++) {
            sum = mixed(sum, fog[tick]);
        }
        return bridge.mixedInto(sum);
    }

    private static boolean isBetween(int number, int least, int most) {
        return number >= least && number <= most;
    }

    private static boolean isIndex(int number, int size) {
        return number >= 0 && number < size;
    }

    private static long mixed(long sum, int number) {
        return sum * 31 + number;
    }

    private int ringsHeard(int rings, int firstTick) {
        int length = Rings.lengthOf(rings);
        int heard = 0;
        for (int index = 0; index < length; index++) {
            int ring = Rings.ringAt(rings, length - 1 - index);
            int carries = ring == SHORT ? SHORT_CARRIES : LONG_CARRIES;
            if (fogIn(firstTick + index) < carries) {
                heard = heard * 10 + ring;
            }
        }
        return heard;
    }

    private int fogIn(int tick) {
        int index = tick % FOG_TICKS;
        return isIndex(index, fog.length) ? fog[index] : 0;
    }

    private int countOf(int what) {
        switch (what) {
            case 0:
                return bridge.tick;
            case 1:
                return code.size;
            case 2:
                return bridge.cartCount;
            case 3:
                return bridge.cartsIn(WAITS);
            case 4:
                return bridge.cartsIn(ON_BRIDGE);
            case 5:
                return bridge.cartsIn(OVER);
            case 6:
                return bridge.cartsIn(TURNED_AWAY);
            case 7:
                return bridge.direction;
            case 8:
                return bridge.weightOnBridge();
            case 9:
                return bridge.places;
            default:
                return bridge.bears;
        }
    }

    /** Rows of rings as decimal numbers; places in them are told from the last ring, which is 0. */
    private static final class Rings {
        /** The rings of a row, or NONE if the number is no row. */
        static int lengthOf(int rings) {
            int rest = rings;
            for (int length = 0; length <= MAX_INT_DIGITS; length++) {
                if (rest == 0) {
                    return length;
                }
                int ring = rest % 10;
                if (ring != SHORT && ring != LONG) {
                    return NONE;
                }
                rest /= 10;
            }
            return NONE;
        }

        static int ringAt(int rings, int place) {
            return withoutLast(rings, place) % 10;
        }

        static int withoutLast(int rings, int dropped) {
            int rest = rings;
            for (int i = 0; i < dropped && i < MAX_INT_DIGITS; i++) {
                rest /= 10;
            }
            return rest;
        }

        static int withoutRing(int rings, int place) {
            int behind = rings - followedBy(withoutLast(rings, place), place);
            return followedBy(withoutLast(rings, place + 1), place) + behind;
        }

        static boolean isBeginning(int beginning, int rings) {
            int behind = lengthOf(rings) - lengthOf(beginning);
            return behind >= 0 && withoutLast(rings, behind) == beginning;
        }

        static int behindBeginning(int beginning, int rings) {
            return rings - followedBy(beginning, lengthOf(rings) - lengthOf(beginning));
        }

        private static int followedBy(int rings, int places) {
            int shifted = rings;
            for (int i = 0; i < places && i < MAX_INT_DIGITS; i++) {
                shifted *= 10;
            }
            return shifted;
        }
    }

    /** The signals; no one is the beginning of another one, so a row is read in one way only. */
    private static final class Code {
        private final int[] signals = new int[MAX_SIGNALS];
        private final int[] rowsOfLength = new int[MAX_COUNTED_RINGS + 1];
        private int size;

        boolean isFull() {
            return size >= signals.length;
        }

        boolean isAmbiguousWith(int rings) {
            for (int signal = 0; signal < size; signal++) {
                int known = ringsOf(signal);
                if (Rings.isBeginning(known, rings) || Rings.isBeginning(rings, known)) {
                    return true;
                }
            }
            return false;
        }

        int add(int rings) {
            if (!isIndex(size, signals.length)) {
                return NONE;
            }
            signals[size] = rings;
            size++;
            return size - 1;
        }

        int ringsOf(int signal) {
            return isIndex(signal, signals.length) ? signals[signal] : 0;
        }

        int readRow(int rings, int what) {
            int left = rings;
            int read = 0;
            int last = NONE;
            for (int i = 0; i < MAX_READ_RINGS; i++) {
                int signal = signalAtBeginningOf(left);
                if (signal == NONE) {
                    break;
                }
                left = Rings.behindBeginning(ringsOf(signal), left);
                read++;
                last = signal;
            }
            switch (what) {
                case 0:
                    return read;
                case 1:
                    return last;
                default:
                    return Rings.lengthOf(left);
            }
        }

        int safeRings(int rings) {
            int length = Rings.lengthOf(rings);
            int safe = 0;
            for (int place = 0; place < length; place++) {
                int others = Rings.withoutRing(rings, place);
                // An empty row has nothing left either, but is no signal.
                if (others == 0 || readRow(others, 2) > 0) {
                    safe++;
                }
            }
            return safe;
        }

        int wholeRows(int length) {
            if (!isIndex(length, rowsOfLength.length)) {
                return 0;
            }
            rowsOfLength[0] = 1;
            for (int rings = 1; rings <= length; rings++) {
                rowsOfLength[rings] = rowsByLastSignal(rings);
            }
            return rowsOfLength[length];
        }

        long mixedInto(long sum) {
            long result = sum;
            for (int signal = 0; signal < size; signal++) {
                result = mixed(result, ringsOf(signal));
            }
            return result;
        }

        private int signalAtBeginningOf(int rings) {
            for (int signal = 0; signal < size; signal++) {
                if (Rings.isBeginning(ringsOf(signal), rings)) {
                    return signal;
                }
            }
            return NONE;
        }

        private int rowsByLastSignal(int length) {
            int found = 0;
            for (int signal = 0; signal < size; signal++) {
                int before = length - Rings.lengthOf(ringsOf(signal));
                if (isIndex(before, rowsOfLength.length)) {
                    found += rowsOfLength[before];
                }
            }
            return found;
        }
    }

    /** A row of cart numbers, each of them once at most. */
    private static final class Row {
        private final int[] carts = new int[MAX_CARTS];
        private int size;

        int at(int index) {
            return index < size && isIndex(index, carts.length) ? carts[index] : NONE;
        }

        int last() {
            return at(size - 1);
        }

        void addLast(int cart) {
            if (isIndex(size, carts.length)) {
                carts[size] = cart;
                size++;
            }
        }

        void addFirst(int cart) {
            if (isIndex(size, carts.length)) {
                for (int i = size; i > 0; i--) {
                    carts[i] = carts[i - 1];
                }
                carts[0] = cart;
                size++;
            }
        }

        void removeFirst() {
            if (size > 0) {
                size--;
                for (int i = 0; i < size && i + 1 < carts.length; i++) {
                    carts[i] = carts[i + 1];
                }
            }
        }

        void removeLast() {
            if (size > 0) {
                size--;
            }
        }

        void copyFrom(Row other) {
            size = other.size;
            for (int i = 0; i < size && i < carts.length; i++) {
                carts[i] = other.at(i);
            }
        }
    }

    /** A cart; its way is told in places from the one where it comes on, which is 0. */
    private static final class Cart {
        private final int number;
        private int end;
        private int axles;
        private int weight;
        private int pace;
        private int coins;
        private boolean isCheat;
        private boolean hasPaid;
        private int state = WAITS;
        private int way;
        private int overTick = NONE;

        Cart(int number) {
            this.number = number;
        }

        void copyFrom(Cart other) {
            end = other.end;
            axles = other.axles;
            weight = other.weight;
            pace = other.pace;
            coins = other.coins;
            isCheat = other.isCheat;
            hasPaid = other.hasPaid;
            state = other.state;
            way = other.way;
            overTick = other.overTick;
        }
    }

    /** What stands at an end: the queue and the box. */
    private static final class Gate {
        private final Row waiting = new Row();
        private int coins;
        private int payers;
        private int axles;
        private int keptByCheats;

        void take(Cart cart, int paid, int honest) {
            coins += paid;
            payers++;
            axles += cart.axles;
            keptByCheats += honest - paid;
        }

        int tell(int what) {
            switch (what) {
                case 0:
                    return coins;
                case 1:
                    return payers;
                case 2:
                    return axles;
                default:
                    return waiting.size;
            }
        }

        long mixedInto(long sum) {
            long result = sum;
            for (int what = 0; what < BOX_ANSWERS; what++) {
                result = mixed(result, tell(what));
            }
            for (int index = 0; index < waiting.size; index++) {
                result = mixed(result, waiting.at(index));
            }
            return result;
        }

        void copyFrom(Gate other) {
            waiting.copyFrom(other.waiting);
            coins = other.coins;
            payers = other.payers;
            axles = other.axles;
            keptByCheats = other.keptByCheats;
        }
    }

    /** The bridge with its ends and carts: all that a tick changes. */
    private static final class Bridge {
        private int tick;
        private int direction;
        private int places = 10;
        private int bears = 200;
        private int axleToll = 1;
        private int tenToll = 1;
        private int cartCount;
        private final Cart[] carts = new Cart[MAX_CARTS];
        private final Gate firstGate = new Gate();
        private final Gate secondGate = new Gate();
        // The carts on the bridge as they came on. Nobody comes on while one for the other
        // direction is there, so all have the same end, and the first is the farthest from it.
        private final Row crossing = new Row();

        Bridge() {
            for (int number = 0; number < carts.length; number++) {
                carts[number] = new Cart(number);
            }
        }

        Gate gateAt(int end) {
            return end == 0 ? firstGate : secondGate;
        }

        Cart cartAt(int number) {
            return number < cartCount && isIndex(number, carts.length) ? carts[number] : null;
        }

        Cart newCart() {
            if (cartCount >= carts.length) {
                return null;
            }
            cartCount++;
            return cartAt(cartCount - 1);
        }

        void turn() {
            direction = 1 - direction;
        }

        /** Lets ticks go by; returns how many carts were over in them. */
        int run(int ticks) {
            int over = 0;
            for (int i = 0; i < ticks; i++) {
                over += move();
                comeOn();
                tick++;
            }
            return over;
        }

        boolean isOver(int number) {
            Cart cart = cartAt(number);
            return cart != null && cart.state == OVER;
        }

        int coinsInBoxes() {
            return firstGate.coins + secondGate.coins;
        }

        int cartsIn(int state) {
            int found = 0;
            for (int number = 0; number < cartCount; number++) {
                Cart cart = cartAt(number);
                if (cart != null && cart.state == state) {
                    found++;
                }
            }
            return found;
        }

        int weightOnBridge() {
            int weight = 0;
            for (int index = 0; index < crossing.size; index++) {
                Cart cart = cartAt(crossing.at(index));
                if (cart != null) {
                    weight += cart.weight;
                }
            }
            return weight;
        }

        double meanOverTick() {
            long sum = 0;
            int found = 0;
            for (int number = 0; number < cartCount; number++) {
                Cart cart = cartAt(number);
                if (cart != null && cart.state == OVER) {
                    sum += cart.overTick;
                    found++;
                }
            }
            return found == 0 ? 0 : (double) sum / found;
        }

        int tellCart(Cart cart, int what) {
            switch (what) {
                case 0:
                    return cart.axles;
                case 1:
                    return cart.weight;
                case 2:
                    return cart.pace;
                case 3:
                    return cart.coins;
                case 4:
                    return cart.end;
                case 5:
                    return cart.state;
                case 6:
                    return placeOf(cart);
                case 7:
                    return tollFor(cart.axles, cart.weight);
                default:
                    return cart.overTick;
            }
        }

        long mixedInto(long sum) {
            long result = secondGate.mixedInto(firstGate.mixedInto(sum));
            for (int number = 0; number < cartCount; number++) {
                Cart cart = cartAt(number);
                for (int what = 0; cart != null && what < CART_ANSWERS; what++) {
                    result = mixed(result, tellCart(cart, what));
                }
            }
            return result;
        }

        void copyFrom(Bridge other) {
            tick = other.tick;
            direction = other.direction;
            places = other.places;
            bears = other.bears;
            axleToll = other.axleToll;
            tenToll = other.tenToll;
            cartCount = other.cartCount;
            for (int number = 0; number < cartCount; number++) {
                Cart to = cartAt(number);
                Cart from = other.cartAt(number);
                if (to != null && from != null) {
                    to.copyFrom(from);
                }
            }
            firstGate.copyFrom(other.firstGate);
            secondGate.copyFrom(other.secondGate);
            crossing.copyFrom(other.crossing);
        }

        private int placeOf(Cart cart) {
            if (cart.state != ON_BRIDGE) {
                return NONE;
            }
            return cart.end == 0 ? cart.way : places - 1 - cart.way;
        }

        private int tollFor(int axles, int weight) {
            return axles * axleToll + weight / TOLL_WEIGHT * tenToll;
        }

        private int move() {
            Cart first = cartAt(crossing.at(0));
            if (first == null) {
                return 0;
            }
            if (first.end == direction) {
                return goOn();
            }
            goBack();
            return 0;
        }

        private int goOn() {
            int over = 0;
            // Ahead of the foremost nobody is, so its pace alone bounds it.
            int farthest = places + MAX_PACE;
            for (int index = 0; index < crossing.size; index++) {
                Cart cart = cartAt(crossing.at(index));
                if (cart == null) {
                    break;
                }
                int way = Math.min(cart.way + cart.pace, farthest);
                if (way < places) {
                    cart.way = way;
                    farthest = way - 1;
                } else {
                    cart.state = OVER;
                    cart.overTick = tick;
                    over++;
                }
            }
            for (int i = 0; i < over; i++) {
                crossing.removeFirst();
            }
            return over;
        }

        private void goBack() {
            int nearest = NONE;
            for (int index = crossing.size - 1; index >= 0; index--) {
                Cart cart = cartAt(crossing.at(index));
                if (cart == null) {
                    break;
                }
                int way = Math.max(cart.way - 1, nearest);
                if (way >= 0) {
                    cart.way = way;
                    nearest = way + 1;
                } else {
                    cart.state = WAITS;
                    gateAt(cart.end).waiting.addFirst(cart.number);
                    crossing.removeLast();
                }
            }
        }

        private void comeOn() {
            Gate gate = gateAt(direction);
            Cart cart = cartAt(gate.waiting.at(0));
            if (cart == null || !hasRoomFor(cart)) {
                return;
            }
            gate.waiting.removeFirst();
            if (cart.hasPaid || pays(cart, gate)) {
                cart.state = ON_BRIDGE;
                cart.way = 0;
                crossing.addLast(cart.number);
            } else {
                cart.state = TURNED_AWAY;
            }
        }

        private boolean hasRoomFor(Cart cart) {
            Cart last = cartAt(crossing.last());
            boolean isStartFree = last == null || last.end == direction && last.way > 0;
            return isStartFree && weightOnBridge() + cart.weight <= bears;
        }

        private boolean pays(Cart cart, Gate gate) {
            int honest = tollFor(cart.axles, cart.weight);
            int due = cart.isCheat ? tollFor(1, cart.weight) : honest;
            if (cart.coins < due) {
                return false;
            }
            cart.coins -= due;
            cart.hasPaid = true;
            gate.take(cart, due, honest);
            return true;
        }
    }
}
