import java.util.function.Supplier;

/** Promises 14 to 17 and how a tick goes: a test for each sentence that names a boundary case. */
public final class TicksEdgesTest {
    private static final Class<IllegalArgumentException> ARGUMENT = IllegalArgumentException.class;
    private static final Class<IndexOutOfBoundsException> INDEX = IndexOutOfBoundsException.class;
    private static final int LEAST = Integer.MIN_VALUE;
    private static final int MOST = Integer.MAX_VALUE;

    public static void main(String[] args) {
        eachPaceToTheLastPlace();
        overBeyondTheLastPlace();
        notOntoAnotherOne();
        foremostGoesFirst();
        backByOne();
        backBeyondTheFirstPlace();
        firstInTheQueueAgain();
        tollIsNotPaidAnew();
        tollOf0IsPaidToo();
        onlyTheFirstComesOn();
        notAgainstOthers();
        notOntoTheFirstPlaceOfAnother();
        weightThatItBears();
        weightThatLeaves();
        tooHeavyForEver();
        justEnoughCoins();
        justEnoughCoinsOfACheat();
        nobodyElseInThisTick();
        boxOfThatEnd();
        tickIsOneGreater();
        boxAnswers();
        noSuchBox();
        boxCountsThatStay();
        emptyBox();
        emptiedSinceThen();
        emptyByTheTollsThatHeld();
        emptyWithoutTheCoins();
        noSuchEnd();
        fewestAndMostTicks();
        noSuchTicks();
        overInThem();
        countAnswers();
        noSuchCount();
        looksChangeNothing();
        Check.finish("TicksEdgesTest");
    }

    private static FogBridge bridge(int places, int bears) {
        FogBridge x = new FogBridge();
        x.rebuild(places, bears);
        return x;
    }

    private static void placesAre(String when, FogBridge x, int... due) {
        for (int cart = 0; cart < due.length; cart++) {
            Check.is(when + ": cart(" + cart + ", 6)", x.cart(cart, 6), due[cart]);
        }
    }

    private static void statesAre(String when, FogBridge x, int... due) {
        for (int cart = 0; cart < due.length; cart++) {
            Check.is(when + ": cart(" + cart + ", 5)", x.cart(cart, 5), due[cart]);
        }
    }

    private static void boxIs(String when, FogBridge x, int end, int... due) {
        for (int what = 0; what < due.length; what++) {
            Check.is(when + ": box(" + end + ", " + what + ")", x.box(end, what), due[what]);
        }
    }

    // Step 1: "goes on by its pace, place by place"
    private static void eachPaceToTheLastPlace() {
        for (int pace = 1; pace <= 3; pace++) {
            FogBridge x = new FogBridge();
            States.light(x, 0, pace);
            x.pass(1);
            Check.is("onto the first place", x.cart(0, 6), 0);
            for (int tick = 1; tick * pace < 10; tick++) {
                Check.is("not over yet", x.pass(1), 0);
                Check.is("by its pace", x.cart(0, 6), tick * pace);
            }
            Check.is("beyond the last place", x.pass(1), 1);
        }
    }

    // Step 1: "beyond the last place it is over"
    private static void overBeyondTheLastPlace() {
        for (int pace = 1; pace <= 3; pace++) {
            for (int free = 0; free < 3; free++) {
                FogBridge x = bridge(6 + free + 1, 200);
                States.light(x, 0, pace);
                x.pass(1 + 6 / pace);
                Check.is("so many places are ahead of it", x.count(9) - 1 - x.cart(0, 6), free);
                x.pass(1);
                boolean isOver = pace > free;
                Check.is("pace " + pace + ", free " + free, x.cart(0, 5), isOver ? 2 : 1);
                Check.is("its place", x.cart(0, 6), isOver ? -1 : 6 + pace);
            }
        }
    }

    // Step 1: "but not onto a place where another one is"
    private static void notOntoAnotherOne() {
        FogBridge x = new FogBridge();
        States.light(x, 0, 1);
        States.light(x, 0, 3);
        x.pass(2);
        placesAre("one place free between none", x, 1, 0);
        x.pass(1);
        placesAre("right behind it", x, 2, 1);
        FogBridge y = new FogBridge();
        States.light(y, 0, 2);
        States.light(y, 0, 3);
        y.pass(2);
        placesAre("one place between them", y, 2, 0);
        y.pass(1);
        placesAre("as many as its pace", y, 4, 3);
        y.pass(1);
        placesAre("one less than its pace", y, 6, 5);
        FogBridge z = bridge(4, 200);
        States.light(z, 0, 1);
        States.light(z, 0, 3);
        z.pass(4);
        placesAre("up to one on the last place", z, 3, 2);
        statesAre("nobody is over", z, 1, 1);
    }

    // Step 1: "from the foremost in it to the last"
    private static void foremostGoesFirst() {
        FogBridge x = bridge(4, 200);
        States.light(x, 0, 1);
        States.light(x, 0, 1);
        States.light(x, 0, 3);
        x.pass(4);
        placesAre("one behind the other", x, 3, 2, 1);
        Check.is("the foremost makes room", x.pass(1), 1);
        placesAre("for those behind", x, -1, 3, 2);
        FogBridge y = bridge(4, 200);
        y.change();
        States.light(y, 1, 1);
        States.light(y, 1, 3);
        y.pass(4);
        placesAre("likewise from the end 1", y, 0, 1);
        Check.is("both are over in one tick", y.pass(1), 2);
        Check.is("tick of the one", y.cart(0, 8), 4);
        Check.is("tick of the other one", y.cart(1, 8), 4);
    }

    // Step 1: "goes back by 1, likewise"
    private static void backByOne() {
        for (int pace = 1; pace <= 3; pace++) {
            FogBridge x = new FogBridge();
            States.light(x, 0, pace);
            x.pass(1 + 9 / pace);
            int place = 9 / pace * pace;
            Check.is("far on", x.cart(0, 6), place);
            x.change();
            for (int tick = 1; tick <= place; tick++) {
                x.pass(1);
                Check.is("back by 1", x.cart(0, 6), place - tick);
            }
        }
        FogBridge y = new FogBridge();
        States.light(y, 0, 1);
        States.light(y, 0, 1);
        States.light(y, 0, 1);
        y.pass(4);
        placesAre("side by side", y, 3, 2, 1);
        y.change();
        y.pass(1);
        placesAre("all at once", y, 2, 1, 0);
    }

    // Step 1: "beyond the place where it came on it waits"
    private static void backBeyondTheFirstPlace() {
        FogBridge x = new FogBridge();
        States.light(x, 0, 1);
        x.pass(2);
        x.change();
        Check.is("nobody is over", x.pass(1), 0);
        placesAre("on the place where it came on", x, 0);
        statesAre("on the bridge still", x, 1);
        Check.is("it is no way over", x.pass(1), 0);
        placesAre("beyond it", x, -1);
        statesAre("it waits", x, 0);
        Check.is("it has no tick", x.cart(0, 8), -1);
        FogBridge y = new FogBridge();
        y.change();
        States.light(y, 1, 3);
        y.pass(1);
        y.change();
        y.pass(1);
        statesAre("from the first place at once", y, 0);
        Check.is("at its own end", y.queue(1, 0), 0);
        Check.is("not at the other one", y.box(0, 3), 0);
    }

    // Step 1: "it waits first in the queue of its end again"
    private static void firstInTheQueueAgain() {
        FogBridge x = new FogBridge();
        for (int cart = 0; cart < 16; cart++) {
            States.light(x, 0, 1);
        }
        x.pass(8);
        Check.is("eight on the bridge", x.count(4), 8);
        x.change();
        x.pass(1);
        Check.is("the last one is back", x.queue(0, 0), 7);
        Check.is("ahead of the next one", x.queue(0, 1), 8);
        x.pass(7);
        for (int index = 0; index < 16; index++) {
            Check.is("a full queue as at first", x.queue(0, index), index);
        }
        Check.is("nobody on the bridge", x.count(4), 0);
        x.change();
        x.pass(1);
        Check.is("the first one again", x.cart(0, 6), 0);
    }

    // Step 1: "its toll is not paid anew"; step 2: "one that has paid already does not"
    private static void tollIsNotPaidAnew() {
        FogBridge x = new FogBridge();
        x.come(0, 4, 10, 1, 5, false);
        x.pass(1);
        Check.is("all it had", x.cart(0, 3), 0);
        x.change();
        x.pass(1);
        x.setToll(9, 9);
        x.change();
        x.pass(1);
        Check.is("it comes on without coins", x.cart(0, 5), 1);
        boxIs("it paid once", x, 0, 5, 1, 4, 0);
        Check.is("no cheat", x.empty(0), 0);
    }

    // the same for a toll of 0: it is a toll that is paid
    private static void tollOf0IsPaidToo() {
        FogBridge x = new FogBridge();
        x.setToll(0, 0);
        x.come(0, 3, 200, 1, 0, false);
        x.pass(1);
        Check.is("it comes on without coins", x.cart(0, 5), 1);
        boxIs("a toll of 0", x, 0, 0, 1, 3, 0);
        x.change();
        x.pass(1);
        x.setToll(9, 9);
        x.change();
        x.pass(1);
        Check.is("it comes on again", x.cart(0, 5), 1);
        boxIs("once", x, 0, 0, 1, 3, 0);
        Check.is("nothing is kept back", x.empty(0), 0);
    }

    // Step 2: "the first one in the queue of the end where the open direction begins"
    private static void onlyTheFirstComesOn() {
        FogBridge x = bridge(10, 50);
        x.come(0, 1, 51, 1, 100, false);
        x.come(0, 1, 10, 1, 100, false);
        x.come(1, 1, 10, 1, 100, false);
        x.pass(3);
        statesAre("the first one is too heavy", x, 0, 0, 0);
        x.change();
        x.pass(1);
        statesAre("only the one at the end 1", x, 0, 0, 1);
        FogBridge y = new FogBridge();
        States.light(y, 0, 3);
        States.light(y, 0, 3);
        States.light(y, 0, 3);
        for (int tick = 1; tick <= 3; tick++) {
            y.pass(1);
            Check.is("one in each tick", y.count(4), tick);
        }
    }

    // Step 2: "if none on the bridge came on for the other direction"
    private static void notAgainstOthers() {
        FogBridge x = new FogBridge();
        States.light(x, 0, 1);
        States.light(x, 1, 3);
        x.pass(10);
        Check.is("far on", x.cart(0, 6), 9);
        x.change();
        x.pass(9);
        placesAre("on the last place of its way back", x, 0, -1);
        statesAre("the other one waits", x, 1, 0);
        x.pass(1);
        placesAre("in the tick in which it is back", x, -1, 9);
        x.change();
        x.pass(1);
        placesAre("likewise the other way round", x, 0, -1);
        statesAre("likewise", x, 1, 0);
    }

    // Step 2: "nobody is on this place"
    private static void notOntoTheFirstPlaceOfAnother() {
        FogBridge x = new FogBridge();
        States.light(x, 0, 1);
        States.light(x, 0, 1);
        x.pass(2);
        placesAre("free as the first went on by 1", x, 1, 0);
        x.change();
        x.pass(1);
        placesAre("back on it", x, 0, -1);
        x.change();
        x.pass(1);
        placesAre("free again behind one that goes on", x, 1, 0);
    }

    // Step 2: "the weight of all on the bridge and its own is at most what it bears"
    private static void weightThatItBears() {
        for (int bears : new int[] {99, 100, 101}) {
            FogBridge x = bridge(10, bears);
            x.come(0, 1, 40, 1, 100, false);
            x.come(0, 1, 30, 1, 100, false);
            x.come(0, 1, 30, 1, 100, false);
            x.pass(3);
            Check.is("100 where it bears " + bears, x.cart(2, 5), bears >= 100 ? 1 : 0);
            Check.is("weight on it", x.count(8), bears >= 100 ? 100 : 70);
        }
        FogBridge least = bridge(10, 10);
        least.come(0, 1, 10, 1, 100, false);
        least.pass(1);
        Check.is("one alone of just the least", least.cart(0, 5), 1);
        FogBridge most = bridge(30, 500);
        most.come(0, 1, 200, 1, 100, false);
        most.come(0, 1, 200, 1, 100, false);
        most.come(0, 1, 100, 1, 100, false);
        most.come(0, 1, 1, 1, 100, false);
        most.pass(4);
        Check.is("just the most", most.count(8), 500);
        Check.is("one more is too heavy", most.cart(3, 5), 0);
    }

    // Steps 1 and 2: who is over or back in this tick weighs no more
    private static void weightThatLeaves() {
        FogBridge x = bridge(4, 100);
        x.come(0, 1, 100, 3, 100, false);
        x.come(0, 1, 100, 3, 100, false);
        x.pass(2);
        statesAre("the one is on it", x, 1, 0);
        x.pass(1);
        statesAre("the other one in the same tick", x, 2, 1);
        FogBridge y = bridge(4, 100);
        y.come(0, 1, 100, 3, 100, false);
        y.come(1, 1, 100, 3, 100, false);
        y.pass(1);
        y.change();
        y.pass(1);
        statesAre("it is back in the same tick", y, 0, 1);
    }

    // Step 2: the least of what it bears, and more than that for ever
    private static void tooHeavyForEver() {
        FogBridge x = bridge(4, 10);
        x.come(0, 1, 11, 1, 0, false);
        x.come(0, 1, 10, 1, 100, false);
        x.pass(200);
        statesAre("it is neither taken nor turned away", x, 0, 0);
        x.rebuild(4, 11);
        x.pass(2);
        statesAre("it has no coins, as it is asked", x, 3, 1);
    }

    // Step 2: "One that has not so many coins is turned away (it leaves the queue)"
    private static void justEnoughCoins() {
        for (int coins : new int[] {0, 19, 20, 21, 100}) {
            FogBridge x = new FogBridge();
            x.setToll(3, 2);
            x.come(0, 4, 49, 1, coins, false);
            x.pass(1);
            boolean isEnough = coins >= 20;
            Check.is("with " + coins, x.cart(0, 5), isEnough ? 1 : 3);
            Check.is("then", x.cart(0, 3), isEnough ? coins - 20 : coins);
            Check.is("in the box", x.box(0, 0), isEnough ? 20 : 0);
            Check.is("who paid", x.box(0, 1), isEnough ? 1 : 0);
            Check.is("axles", x.box(0, 2), isEnough ? 4 : 0);
            Check.is("the queue is left", x.box(0, 3), 0);
        }
    }

    // Step 2: "a cheat pays only as if it had one axle (the weight as it is)"
    private static void justEnoughCoinsOfACheat() {
        for (int coins : new int[] {0, 10, 11, 12, 100}) {
            FogBridge x = new FogBridge();
            x.setToll(3, 2);
            x.come(0, 4, 49, 1, coins, true);
            x.pass(1);
            boolean isEnough = coins >= 11;
            Check.is("with " + coins, x.cart(0, 5), isEnough ? 1 : 3);
            Check.is("then", x.cart(0, 3), isEnough ? coins - 11 : coins);
            Check.is("in the box", x.box(0, 0), isEnough ? 11 : 0);
            Check.is("its true axles", x.box(0, 2), isEnough ? 4 : 0);
            Check.is("kept back", x.empty(0), isEnough ? 9 : 0);
        }
        FogBridge y = new FogBridge();
        y.come(0, 1, 10, 1, 100, true);
        y.pass(1);
        Check.is("of one axle a cheat keeps nothing", y.empty(0), 0);
    }

    // Step 2: "and nobody comes on in this tick"
    private static void nobodyElseInThisTick() {
        FogBridge x = new FogBridge();
        x.come(0, 1, 10, 1, 1, false);
        x.come(0, 1, 10, 1, 0, false);
        x.come(0, 1, 10, 1, 2, false);
        x.pass(1);
        statesAre("the first tick", x, 3, 0, 0);
        Check.is("it left the queue", x.queue(0, 0), 1);
        x.pass(1);
        statesAre("the second tick", x, 3, 3, 0);
        x.pass(1);
        statesAre("the third tick", x, 3, 3, 1);
        Check.is("turned away", x.count(6), 2);
    }

    // Step 2: "The coins go into the box of that end"
    private static void boxOfThatEnd() {
        FogBridge x = new FogBridge();
        x.come(0, 2, 10, 3, 100, false);
        x.come(1, 3, 20, 3, 100, false);
        x.pass(1);
        boxIs("the end 0", x, 0, 3, 1, 2, 0);
        boxIs("not the end 1", x, 1, 0, 0, 0, 1);
        x.pass(5);
        x.change();
        x.pass(1);
        boxIs("the end 0 as before", x, 0, 3, 1, 2, 0);
        boxIs("the end 1", x, 1, 5, 1, 3, 0);
    }

    // Step 3 and Terms: "Time is told in ticks, from 0"; "The tick is 1 greater"
    private static void tickIsOneGreater() {
        FogBridge x = new FogBridge();
        Check.is("at first", x.count(0), 0);
        x.pass(1);
        Check.is("one tick", x.count(0), 1);
        x.pass(200);
        Check.is("200 more", x.count(0), 201);
        FogBridge y = bridge(4, 200);
        States.light(y, 0, 3);
        y.pass(3);
        Check.is("over in the third tick, which is 2", y.cart(0, 8), 2);
    }

    // Promise 14: what is 0 to 3
    private static void boxAnswers() {
        FogBridge x = States.lively();
        boxIs("lively", x, 0, 9 + 15 + 21, 3, 4 + 3 + 1, 1);
        boxIs("lively", x, 1, 0, 0, 0, 1);
        boxIs("all wait", States.full(), 0, 0, 0, 0, 8);
        boxIs("all wait", States.full(), 1, 0, 0, 0, 8);
    }

    // Promise 14: "if end is not 0 to 1, or what is not 0 to 3"
    private static void noSuchBox() {
        for (int end : new int[] {-1, 2, 3, LEAST, MOST}) {
            Check.refuses("box(" + end + ", 0)", INDEX, States::lively, y -> y.box(end, 0));
            Check.refuses("box(" + end + ", 3)", INDEX, States::lively, y -> y.box(end, 3));
            Check.refuses("box(" + end + ", 4)", INDEX, States::lively, y -> y.box(end, 4));
        }
        for (int what : new int[] {-1, 4, 5, LEAST, MOST}) {
            Check.refuses("box(0, " + what + ")", INDEX, States::lively, y -> y.box(0, what));
            Check.refuses("box(1, " + what + ")", INDEX, States::lively, y -> y.box(1, what));
        }
    }

    // Promise 14: "1 carts that paid there in all, 2 axles of these": emptying leaves them
    private static void boxCountsThatStay() {
        FogBridge x = States.lively();
        x.empty(0);
        boxIs("emptied", x, 0, 0, 3, 8, 1);
        x.pass(10);
        boxIs("one more paid", x, 0, 12, 4, 10, 0);
    }

    // Promise 15: what is empty
    private static void emptyBox() {
        FogBridge x = new FogBridge();
        Check.is("nobody paid yet", x.empty(0), 0);
        FogBridge y = States.lively();
        Check.is("nobody paid at the end 1", y.empty(1), 0);
        Check.is("the end 0 is not emptied by it", y.box(0, 0), 45);
        Check.is("two cheats", y.empty(0), 9 + 6);
        Check.is("no coins then", y.box(0, 0), 0);
        Check.is("emptied twice", y.empty(0), 0);
        FogBridge z = new FogBridge();
        z.come(0, 4, 200, 1, 100, false);
        z.pass(1);
        Check.is("only an honest one paid", z.empty(0), 0);
        Check.is("no coins then", z.box(0, 0), 0);
    }

    // Promise 15: "all who paid there since it was emptied"
    private static void emptiedSinceThen() {
        FogBridge x = new FogBridge();
        x.come(0, 4, 10, 3, 100, true);
        x.come(0, 3, 10, 3, 100, true);
        x.come(0, 2, 10, 3, 100, false);
        x.come(1, 2, 10, 3, 100, true);
        x.pass(1);
        Check.is("the first one", x.empty(0), 3);
        x.pass(1);
        Check.is("the second one alone", x.empty(0), 2);
        x.pass(1);
        Check.is("an honest one", x.empty(0), 0);
        Check.is("nobody at the end 1", x.empty(1), 0);
        x.pass(10);
        x.change();
        x.pass(1);
        Check.is("one at the end 1", x.empty(1), 1);
        Check.is("nobody since at the end 0", x.empty(0), 0);
    }

    // Promise 15: "by the tolls that held as they paid"
    private static void emptyByTheTollsThatHeld() {
        FogBridge x = new FogBridge();
        x.setToll(9, 9);
        x.come(0, 4, 10, 3, 100, true);
        x.come(0, 4, 10, 3, 100, true);
        x.come(0, 4, 10, 3, 100, true);
        x.pass(1);
        x.setToll(0, 9);
        x.pass(1);
        x.setToll(1, 0);
        x.pass(1);
        x.setToll(5, 5);
        Check.is("27, 0 and 3", x.empty(0), 30);
    }

    // Promise 15: "if all ... had been honest", whatever coins they have
    private static void emptyWithoutTheCoins() {
        FogBridge x = new FogBridge();
        x.setToll(9, 0);
        x.come(0, 4, 10, 3, 9, true);
        x.pass(1);
        Check.is("all its coins", x.cart(0, 3), 0);
        Check.is("the greatest that one keeps", x.empty(0), 27);
    }

    // Promise 15: "if end is not 0 to 1"
    private static void noSuchEnd() {
        for (int end : new int[] {-1, 2, 3, LEAST, MOST}) {
            Check.refuses("empty(" + end + ")", INDEX, States::lively, y -> y.empty(end));
        }
    }

    // Promise 16: "if ticks is not 1 to 200": the least and the greatest
    private static void fewestAndMostTicks() {
        FogBridge x = States.lively();
        Check.is("one tick", x.pass(1), 1);
        Check.is("the tick", x.count(0), 6);
        Check.is("the most ticks", x.pass(200), 2);
        Check.is("the tick then", x.count(0), 206);
        FogBridge once = States.full();
        FogBridge often = States.full();
        int over = 0;
        for (int tick = 0; tick < 200; tick++) {
            over += often.pass(1);
        }
        Check.is("200 at once or one by one", once.pass(200), over);
        Check.is("likewise", once.digest(), often.digest());
    }

    // Promise 16: the first numbers beyond
    private static void noSuchTicks() {
        for (int ticks : new int[] {0, 201, -1, 202, LEAST, MOST}) {
            Check.refuses("pass(" + ticks + ")", ARGUMENT, States::lively, y -> y.pass(ticks));
        }
    }

    // Promise 16: "how many carts were over in them"
    private static void overInThem() {
        FogBridge x = bridge(4, 500);
        for (int cart = 0; cart < 16; cart++) {
            x.come(0, 1, 1, 3, 100, false);
        }
        Check.is("one tick too few", x.pass(2), 0);
        Check.is("the first one", x.pass(1), 1);
        Check.is("only those over in them", x.pass(5), 5);
        Check.is("the rest", x.pass(200), 10);
        Check.is("nobody is left", x.pass(200), 0);
        Check.is("all 16", x.count(5), 16);
    }

    // Promise 17: what is 0 to 10
    private static void countAnswers() {
        FogBridge x = States.done();
        Check.is("the tick", x.count(0), 400);
        Check.is("all signals", x.count(1), 8);
        Check.is("all carts", x.count(2), 16);
        Check.is("all over or turned away", x.count(5) + x.count(6), 16);
        Check.is("the direction", x.count(7), 1);
        Check.is("no weight", x.count(8), 0);
        FogBridge y = States.lively();
        y.change();
        y.pass(2);
        int[] due = {7, 3, 6, 3, 1, 1, 1, 1, 60, 6, 150};
        for (int what = 0; what < due.length; what++) {
            Check.is("one is back: count(" + what + ")", y.count(what), due[what]);
        }
    }

    // Promise 17: "if what is not 0 to 10"
    private static void noSuchCount() {
        for (int what : new int[] {-1, 11, 12, LEAST, MOST}) {
            Check.refuses("count(" + what + ")", INDEX, States::lively, y -> y.count(what));
        }
    }

    // calls that only tell, or set what is set already
    private static void looksChangeNothing() {
        for (int what = 0; what <= 10; what++) {
            int asked = what;
            Check.changesNothing("count", States::lively, y -> y.count(asked));
        }
        for (int what = 0; what <= 3; what++) {
            int asked = what;
            Check.changesNothing("box", States::lively, y -> y.box(0, asked));
        }
        Supplier<FogBridge> emptied = () -> {
            FogBridge x = States.lively();
            x.empty(0);
            return x;
        };
        Check.changesNothing("emptying again", emptied, y -> y.empty(0));
    }
}
