import java.util.ArrayList;
import java.util.List;

/**
 * A second, slow writing of the document: rows of rings are texts, places are searched cart by
 * cart, and looking ahead plays on copies made anew.
 */
final class Model {
    private static final class Cart {
        int number;
        int end;
        int axles;
        int weight;
        int pace;
        int coins;
        boolean isCheat;
        boolean hasPaid;
        int state;
        int place = -1;
        int overTick = -1;
    }

    private final List<String> signals = new ArrayList<>();
    private final int[] fog = new int[20];
    private int tick;
    private int direction;
    private int places = 10;
    private int bears = 200;
    private int axleToll = 1;
    private int tenToll = 1;
    private final List<Cart> carts = new ArrayList<>();
    private final List<List<Cart>> queues = List.of(new ArrayList<>(), new ArrayList<>());
    private final int[][] boxes = new int[2][4];

    private Model copy() {
        Model copy = new Model();
        copy.tick = tick;
        copy.direction = direction;
        copy.places = places;
        copy.bears = bears;
        copy.axleToll = axleToll;
        copy.tenToll = tenToll;
        for (Cart cart : carts) {
            Cart other = new Cart();
            other.number = cart.number;
            other.end = cart.end;
            other.axles = cart.axles;
            other.weight = cart.weight;
            other.pace = cart.pace;
            other.coins = cart.coins;
            other.isCheat = cart.isCheat;
            other.hasPaid = cart.hasPaid;
            other.state = cart.state;
            other.place = cart.place;
            other.overTick = cart.overTick;
            copy.carts.add(other);
        }
        for (int end = 0; end < 2; end++) {
            for (Cart cart : queues.get(end)) {
                copy.queues.get(end).add(copy.carts.get(cart.number));
            }
            copy.boxes[end] = boxes[end].clone();
        }
        return copy;
    }

    int addSignal(int rings) {
        String row = String.valueOf(rings);
        if (!row.matches("[12]{1,6}")) {
            throw new IllegalArgumentException();
        }
        for (String signal : signals) {
            if (signal.startsWith(row) || row.startsWith(signal)) {
                throw new IllegalStateException();
            }
        }
        if (signals.size() == 8) {
            throw new IllegalStateException();
        }
        signals.add(row);
        return signals.size() - 1;
    }

    /** The numbers of the signals that are read, and behind them how many rings are left. */
    private List<Integer> reading(String row) {
        List<Integer> result = new ArrayList<>();
        String rest = row;
        boolean goesOn = true;
        while (goesOn) {
            goesOn = false;
            for (int signal = 0; signal < signals.size() && !goesOn; signal++) {
                if (rest.startsWith(signals.get(signal))) {
                    rest = rest.substring(signals.get(signal).length());
                    result.add(signal);
                    goesOn = true;
                }
            }
        }
        result.add(rest.length());
        return result;
    }

    int read(int rings, int what) {
        String row = rings == 0 ? "" : String.valueOf(rings);
        if (!row.matches("[12]{0,9}")) {
            throw new IllegalArgumentException();
        }
        if (what < 0 || what > 2) {
            throw new IndexOutOfBoundsException();
        }
        List<Integer> reading = reading(row);
        int count = reading.size() - 1;
        if (what == 0) {
            return count;
        }
        if (what == 1) {
            return count == 0 ? -1 : reading.get(count - 1);
        }
        return reading.get(count);
    }

    private void needSignal(int signal) {
        if (signal < 0 || signal >= signals.size()) {
            throw new IndexOutOfBoundsException();
        }
    }

    int heard(int signal) {
        needSignal(signal);
        StringBuilder heard = new StringBuilder("0");
        int then = tick;
        for (char ring : signals.get(signal).toCharArray()) {
            if (ring == '1' && fog[then % 20] < 4 || ring == '2' && fog[then % 20] < 7) {
                heard.append(ring);
            }
            then++;
        }
        return Integer.parseInt(heard.toString());
    }

    int safe(int signal) {
        needSignal(signal);
        int safe = 0;
        StringBuilder row = new StringBuilder(signals.get(signal));
        for (int i = 0; i < row.length(); i++) {
            List<Integer> reading = reading(new StringBuilder(row).deleteCharAt(i).toString());
            boolean isWhole = reading.size() > 1 && reading.get(reading.size() - 1) == 0;
            safe += isWhole ? 0 : 1;
        }
        return safe;
    }

    int rows(int length) {
        if (length < 0 || length > 20) {
            throw new IllegalArgumentException();
        }
        return rowsFrom(length);
    }

    private int rowsFrom(int length) {
        if (length == 0) {
            return 1;
        }
        int rows = 0;
        for (String signal : signals) {
            if (signal.length() <= length) {
                rows += rowsFrom(length - signal.length());
            }
        }
        return rows;
    }

    int setFog(int at, int thick) {
        if (at < 0 || at > 19) {
            throw new IndexOutOfBoundsException();
        }
        if (thick < 0 || thick > 9) {
            throw new IllegalArgumentException();
        }
        int before = fog[at];
        fog[at] = thick;
        return before;
    }

    int rebuild(int newPlaces, int newBears) {
        if (newPlaces < 4 || newPlaces > 30 || newBears < 10 || newBears > 500) {
            throw new IllegalArgumentException();
        }
        if (inState(1) > 0) {
            throw new IllegalStateException();
        }
        int before = bears;
        places = newPlaces;
        bears = newBears;
        return before;
    }

    int setToll(int axle, int ten) {
        if (axle < 0 || axle > 9 || ten < 0 || ten > 9) {
            throw new IllegalArgumentException();
        }
        int before = axleToll * 10 + tenToll;
        axleToll = axle;
        tenToll = ten;
        return before;
    }

    int change() {
        direction = direction == 0 ? 1 : 0;
        return direction;
    }

    int come(int end, int axles, int weight, int pace, int coins, boolean isCheat) {
        if (end < 0 || end > 1 || axles < 1 || axles > 4 || weight < 1 || weight > 200 || pace < 1 || pace > 3
            || coins < 0 || coins > 100) {
            throw new IllegalArgumentException();
        }
        if (carts.size() == 16) {
            throw new IllegalStateException();
        }
        Cart cart = new Cart();
        cart.number = carts.size();
        cart.end = end;
        cart.axles = axles;
        cart.weight = weight;
        cart.pace = pace;
        cart.coins = coins;
        cart.isCheat = isCheat;
        carts.add(cart);
        queues.get(end).add(cart);
        return cart.number;
    }

    int cart(int number, int what) {
        if (number < 0 || number >= carts.size() || what < 0 || what > 8) {
            throw new IndexOutOfBoundsException();
        }
        Cart c = carts.get(number);
        int toll = c.axles * axleToll + c.weight / 10 * tenToll;
        return new int[] {c.axles, c.weight, c.pace, c.coins, c.end, c.state, c.place, toll, c.overTick}[what];
    }

    private static void needEnd(int end) {
        if (end < 0 || end > 1) {
            throw new IndexOutOfBoundsException();
        }
    }

    int queue(int end, int index) {
        needEnd(end);
        if (index < 0 || index >= queues.get(end).size()) {
            throw new IndexOutOfBoundsException();
        }
        return queues.get(end).get(index).number;
    }

    int box(int end, int what) {
        needEnd(end);
        if (what < 0 || what > 3) {
            throw new IndexOutOfBoundsException();
        }
        return what == 3 ? queues.get(end).size() : boxes[end][what];
    }

    int empty(int end) {
        needEnd(end);
        int more = boxes[end][3];
        boxes[end][0] = 0;
        boxes[end][3] = 0;
        return more;
    }

    int pass(int ticks) {
        if (ticks < 1 || ticks > 200) {
            throw new IllegalArgumentException();
        }
        return goBy(ticks);
    }

    private int goBy(int ticks) {
        int before = inState(2);
        for (int i = 0; i < ticks; i++) {
            moveAll();
            comeOn();
            tick++;
        }
        return inState(2) - before;
    }

    private Cart onPlace(int place) {
        for (Cart cart : carts) {
            if (cart.state == 1 && cart.place == place) {
                return cart;
            }
        }
        return null;
    }

    private void moveAll() {
        int step = direction == 0 ? 1 : -1;
        int foremost = direction == 0 ? places - 1 : 0;
        for (int i = 0; i < places; i++) {
            Cart cart = onPlace(foremost - i * step);
            if (cart != null) {
                move(cart, step);
            }
        }
    }

    private void move(Cart cart, int step) {
        boolean isOnItsWay = cart.end == direction;
        int steps = isOnItsWay ? cart.pace : 1;
        for (int i = 0; i < steps && cart.state == 1; i++) {
            int next = cart.place + step;
            if (next >= 0 && next < places) {
                if (onPlace(next) == null) {
                    cart.place = next;
                }
            } else if (isOnItsWay) {
                cart.state = 2;
                cart.overTick = tick;
                cart.place = -1;
            } else {
                cart.state = 0;
                cart.place = -1;
                queues.get(cart.end).add(0, cart);
            }
        }
    }

    private void comeOn() {
        int weight = 0;
        for (Cart cart : carts) {
            if (cart.state == 1) {
                weight += cart.weight;
                if (cart.end != direction) {
                    return;
                }
            }
        }
        int start = direction == 0 ? 0 : places - 1;
        List<Cart> queue = queues.get(direction);
        if (queue.isEmpty() || onPlace(start) != null || weight + queue.get(0).weight > bears) {
            return;
        }
        Cart cart = queue.remove(0);
        if (!cart.hasPaid) {
            int due = (cart.isCheat ? 1 : cart.axles) * axleToll + cart.weight / 10 * tenToll;
            if (cart.coins < due) {
                cart.state = 3;
                return;
            }
            cart.coins -= due;
            cart.hasPaid = true;
            boxes[direction][0] += due;
            boxes[direction][1]++;
            boxes[direction][2] += cart.axles;
            boxes[direction][3] += cart.axles * axleToll + cart.weight / 10 * tenToll - due;
        }
        cart.state = 1;
        cart.place = start;
    }

    private int inState(int state) {
        int found = 0;
        for (Cart cart : carts) {
            found += cart.state == state ? 1 : 0;
        }
        return found;
    }

    int count(int what) {
        if (what < 0 || what > 10) {
            throw new IndexOutOfBoundsException();
        }
        int weight = 0;
        for (Cart cart : carts) {
            weight += cart.state == 1 ? cart.weight : 0;
        }
        return new int[] {tick, signals.size(), carts.size(), inState(0), inState(1), inState(2), inState(3),
            direction, weight, places, bears}[what];
    }

    int over(int number) {
        if (number < 0 || number >= carts.size()) {
            throw new IndexOutOfBoundsException();
        }
        Model copy = copy();
        if (carts.get(number).state == 2) {
            return 0;
        }
        copy.goBy(200);
        return copy.carts.get(number).state == 2 ? copy.carts.get(number).overTick - tick + 1 : -1;
    }

    int keep() {
        Model unchanged = copy();
        int most = unchanged.goBy(60);
        int best = -1;
        for (int kept = 0; kept < 60; kept++) {
            Model changed = copy();
            int over = changed.goBy(kept);
            changed.change();
            over += changed.goBy(60 - kept);
            if (over > most) {
                most = over;
                best = kept;
            }
        }
        return best;
    }

    int foresee(int ticks, int what) {
        if (ticks < 1 || ticks > 100) {
            throw new IllegalArgumentException();
        }
        if (what < 0 || what > 2) {
            throw new IndexOutOfBoundsException();
        }
        Model copy = copy();
        int over = copy.goBy(ticks);
        int coins = 0;
        for (int number = 0; number < carts.size(); number++) {
            coins += carts.get(number).coins - copy.carts.get(number).coins;
        }
        return what == 0 ? over : what == 1 ? coins : copy.inState(1);
    }

    double mean() {
        double sum = 0;
        for (Cart cart : carts) {
            sum += cart.state == 2 ? cart.overTick : 0;
        }
        return inState(2) == 0 ? 0 : sum / inState(2);
    }

    long digest() {
        List<Integer> numbers = new ArrayList<>();
        for (int what = 0; what <= 10; what++) {
            numbers.add(count(what));
        }
        for (String signal : signals) {
            numbers.add(Integer.parseInt(signal));
        }
        for (int thick : fog) {
            numbers.add(thick);
        }
        for (int end = 0; end <= 1; end++) {
            for (int what = 0; what <= 3; what++) {
                numbers.add(box(end, what));
            }
            for (Cart cart : queues.get(end)) {
                numbers.add(cart.number);
            }
        }
        for (int number = 0; number < carts.size(); number++) {
            for (int what = 0; what <= 8; what++) {
                numbers.add(cart(number, what));
            }
        }
        long d = 683;
        for (int number : numbers) {
            d = d * 31 + number;
        }
        return d;
    }
}
