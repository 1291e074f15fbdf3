import java.util.ArrayList;
import java.util.List;

/**
 * The Throws lines of promises 2 to 5, 11, 12 and 14 to 17, and "A call that throws an exception
 * changes nothing; if several exceptions apply, the one that its @throws lines name first is
 * thrown": each refused call alone, on players in many states, beside a twin that is spared it.
 */
public final class WrongInputTest {
    private static final Check CHECK = new Check("WrongInputTest");
    private static final Class<IllegalArgumentException> ARGUMENT = IllegalArgumentException.class;
    private static final Class<IndexOutOfBoundsException> INDEX = IndexOutOfBoundsException.class;
    private static final Class<IllegalStateException> STATE = IllegalStateException.class;
    private static final int LEAST = Integer.MIN_VALUE;
    private static final int MOST = Integer.MAX_VALUE;
    private static final int STATES = 9;
    private static final int AT_LAST_TICK = 7;
    private static final int NEAR_LAST_TICK = 8;

    /** A call on a player. */
    private interface Use {
        void on(FilmPlayer x);
    }

    /** A call that is refused, and what it throws then. */
    private static final class Refused {
        private final String name;
        private final Class<? extends RuntimeException> due;
        private final Use use;

        Refused(String name, Class<? extends RuntimeException> due, Use use) {
            this.name = name;
            this.due = due;
            this.use = use;
        }
    }

    private static final List<Refused> ALL = new ArrayList<>();

    public static void main(String[] args) {
        wrongSettings();
        wrongArrivals();
        wrongTicks();
        wrongPackets();
        wrongFrames();
        for (int state = 0; state < STATES; state++) {
            for (Refused refused : ALL) {
                throwsAndChangesNothing(state, refused);
            }
            allInARow(state);
        }
        lastTickRefuses();
        leastAndGreatestAreTaken();
        CHECK.end();
    }

    private static void add(String name, Class<? extends RuntimeException> due, Use use) {
        ALL.add(new Refused(name, due, use));
    }

    private static FilmPlayer inState(int state) {
        FilmPlayer x = new FilmPlayer();
        switch (state) {
            case 1:
                x.arriveRow(0, 2);
                x.advance(2);
                break;
            case 2:
                x.arriveRow(0, 9);
                x.advance(1);
                x.arriveRow(20, 10);
                break;
            case 3:
                x.set(2, 9, 20, 9);
                x.arriveRow(0, 5);
                x.advance(3);
                break;
            case 4:
                x.arriveRow(0, 12);
                x.set(4, 20, 30, 2);
                break;
            case 5:
                x.arriveRow(0, 15);
                x.advance(1);
                x.arriveRow(20, 10);
                x.advance(23);
                x.arrive(40);
                break;
            case 6:
                x.arriveRow(0, 15);
                x.advance(9);
                Players.goTo(x, 1200);
                x.arrive(298);
                break;
            case AT_LAST_TICK:
                Players.goTo(x, 19000);
                x.arriveRow(0, 15);
                Players.goTo(x, 20000);
                x.arriveRow(50, 5);
                break;
            case NEAR_LAST_TICK:
                Players.goTo(x, 19990);
                x.arriveRow(0, 9);
                break;
            default:
                break;
        }
        return x;
    }

    private static void throwsAndChangesNothing(int state, Refused refused) {
        String name = "state " + state + ", " + refused.name;
        FilmPlayer x = inState(state);
        FilmPlayer twin = inState(state);
        CHECK.dueThrow(name, refused.due, () -> refused.use.on(x));
        CHECK.due(name + ": behind it", Picture.of(x), Picture.of(twin));
        CHECK.due(name + ": later", later(x), later(twin));
    }

    private static void allInARow(int state) {
        FilmPlayer x = inState(state);
        for (Refused refused : ALL) {
            CHECK.dueThrow("state " + state + ", in a row, " + refused.name, refused.due, () -> refused.use.on(x));
        }
        CHECK.due("state " + state + ", in a row: later", later(x), later(inState(state)));
    }

    /** What a player answers from here on shows its settings, and the ticks at which packets came. */
    private static String later(FilmPlayer x) {
        StringBuilder text = new StringBuilder();
        text.append(ring(x)).append(x.arrive(3)).append('\n');
        for (int k = 0; k < 8; k++) {
            text.append(tickOf(x)).append(ring(x));
        }
        text.append(x.arriveRow(60, 30)).append('\n');
        for (int k = 0; k < 8; k++) {
            text.append(tickOf(x)).append(ring(x)).append(x.arrive(k)).append('\n');
        }
        return text.append(Picture.of(x)).append(x.reset()).toString();
    }

    private static String ring(FilmPlayer x) {
        return " waiting " + x.waiting() + " lost " + x.lost() + " polled " + x.isPolled() + '\n';
    }

    private static String tickOf(FilmPlayer x) {
        try {
            return "" + x.advance(1);
        } catch (IllegalStateException e) {
            return "no more ticks";
        }
    }

    private static void wrongSettings() {
        int[] sizes = {0, 33, -1, LEAST, MOST};
        int[] patiences = {0, 51, -1, LEAST, MOST};
        for (int k = 0; k < sizes.length; k++) {
            int wrong = sizes[k];
            int patience = patiences[k];
            add("set size " + wrong, ARGUMENT, x -> x.set(wrong, 1, 1, 1));
            add("set join " + wrong, ARGUMENT, x -> x.set(1, wrong, 1, 1));
            add("set patience " + patience, ARGUMENT, x -> x.set(1, 1, patience, 1));
            add("set load " + wrong, ARGUMENT, x -> x.set(1, 1, 1, wrong));
            add("set size " + wrong + ", others most", ARGUMENT, x -> x.set(wrong, 32, 50, 32));
            add("set join " + wrong + ", others most", ARGUMENT, x -> x.set(32, wrong, 50, 32));
            add("set patience " + patience + ", others most", ARGUMENT, x -> x.set(32, 32, patience, 32));
            add("set load " + wrong + ", others most", ARGUMENT, x -> x.set(32, 32, 50, wrong));
            add("set all " + wrong, ARGUMENT, x -> x.set(wrong, wrong, wrong, wrong));
        }
    }

    private static void wrongArrivals() {
        int[] packets = {-1, 300, LEAST, MOST};
        for (int packet : packets) {
            add("arrive " + packet, INDEX, x -> x.arrive(packet));
            add("arriveRow " + packet + ", 1", INDEX, x -> x.arriveRow(packet, 1));
            add("arriveRow " + packet + ", 30", INDEX, x -> x.arriveRow(packet, 30));
            addBothApply(packet, 0);
            addBothApply(packet, 31);
            addBothApply(packet, LEAST);
            addBothApply(packet, MOST);
        }
        add("arriveRow 299, 2", INDEX, x -> x.arriveRow(299, 2));
        add("arriveRow 298, 3", INDEX, x -> x.arriveRow(298, 3));
        add("arriveRow 271, 30", INDEX, x -> x.arriveRow(271, 30));
        addBothApply(270, 31);
        addBothApply(0, 301);
        addBothApply(299, 31);
        addBothApply(0, MOST);
        addBothApply(1, MOST);
        addBothApply(299, MOST);
        add("arriveRow 269, 31", ARGUMENT, x -> x.arriveRow(269, 31));
        add("arriveRow 0, 300", ARGUMENT, x -> x.arriveRow(0, 300));
        add("arriveRow 0, 31", ARGUMENT, x -> x.arriveRow(0, 31));
        add("arriveRow 0, 0", ARGUMENT, x -> x.arriveRow(0, 0));
        add("arriveRow 299, 0", ARGUMENT, x -> x.arriveRow(299, 0));
        add("arriveRow 299, -1", ARGUMENT, x -> x.arriveRow(299, -1));
        add("arriveRow 0, least", ARGUMENT, x -> x.arriveRow(0, LEAST));
        add("arriveRow 299, least", ARGUMENT, x -> x.arriveRow(299, LEAST));
    }

    /** No such packets, and many is out of range: the first line of the two is thrown. */
    private static void addBothApply(int first, int many) {
        add("arriveRow " + first + ", " + many, INDEX, x -> x.arriveRow(first, many));
    }

    /** At the last tick both apply: the first line of the two is thrown. */
    private static void wrongTicks() {
        int[] wrong = {0, 101, -1, -100, 20001, LEAST, MOST};
        for (int ticks : wrong) {
            add("advance " + ticks, ARGUMENT, x -> x.advance(ticks));
        }
    }

    private static void wrongPackets() {
        int[] packets = {-1, 300, LEAST, MOST};
        for (int packet : packets) {
            add("has " + packet, INDEX, x -> x.has(packet));
            add("askedAt " + packet, INDEX, x -> x.askedAt(packet));
        }
        add("askedAt as many as were", INDEX, x -> x.askedAt(x.asked()));
    }

    private static void wrongFrames() {
        int[] frames = {-1, 100, LEAST, MOST};
        for (int frame : frames) {
            add("kindOf " + frame, INDEX, x -> x.kindOf(frame));
            add("need before " + frame, INDEX, x -> x.need(frame, false));
            add("need behind " + frame, INDEX, x -> x.need(frame, true));
            add("isWhole " + frame, INDEX, x -> x.isWhole(frame));
            add("fate " + frame, INDEX, x -> x.fate(frame));
        }
    }

    /** "if the tick would be above 20000": no tick of them passes. */
    private static void lastTickRefuses() {
        int[] fromLast = {1, 2, 99, 100};
        for (int ticks : fromLast) {
            throwsAndChangesNothing(AT_LAST_TICK, new Refused("advance " + ticks, STATE, x -> x.advance(ticks)));
        }
        int[] fromNear = {11, 12, 100};
        for (int ticks : fromNear) {
            throwsAndChangesNothing(NEAR_LAST_TICK, new Refused("advance " + ticks, STATE, x -> x.advance(ticks)));
        }
        FilmPlayer x = inState(NEAR_LAST_TICK);
        CHECK.due("near the last tick: advance 10", x.advance(10), 20000);
        CHECK.due("near the last tick: next", x.next(), 1);
        CHECK.due("near the last tick: turn", x.turn(), 20000);
    }

    private static void leastAndGreatestAreTaken() {
        for (int state = 0; state < AT_LAST_TICK; state++) {
            String name = "state " + state + ", ";
            FilmPlayer x = inState(state);
            CHECK.dueThrow(name + "arrive 0", null, () -> x.arrive(0));
            CHECK.dueThrow(name + "arrive 299", null, () -> x.arrive(299));
            CHECK.dueThrow(name + "arriveRow 0, 1", null, () -> x.arriveRow(0, 1));
            CHECK.dueThrow(name + "arriveRow 0, 30", null, () -> x.arriveRow(0, 30));
            CHECK.dueThrow(name + "arriveRow 270, 30", null, () -> x.arriveRow(270, 30));
            CHECK.dueThrow(name + "arriveRow 299, 1", null, () -> x.arriveRow(299, 1));
            CHECK.dueThrow(name + "set least", null, () -> x.set(1, 1, 1, 1));
            CHECK.dueThrow(name + "advance 1", null, () -> x.advance(1));
            CHECK.dueThrow(name + "set most", null, () -> x.set(32, 32, 50, 32));
            CHECK.dueThrow(name + "advance 100", null, () -> x.advance(100));
            CHECK.dueThrow(name + "has 0", null, () -> x.has(0));
            CHECK.dueThrow(name + "has 299", null, () -> x.has(299));
            CHECK.dueThrow(name + "kindOf 0", null, () -> x.kindOf(0));
            CHECK.dueThrow(name + "kindOf 99", null, () -> x.kindOf(99));
            CHECK.dueThrow(name + "need 0", null, () -> x.need(0, false));
            CHECK.dueThrow(name + "need 99", null, () -> x.need(99, true));
            CHECK.dueThrow(name + "isWhole 0", null, () -> x.isWhole(0));
            CHECK.dueThrow(name + "isWhole 99", null, () -> x.isWhole(99));
            CHECK.dueThrow(name + "fate 0", null, () -> x.fate(0));
            CHECK.dueThrow(name + "fate 99", null, () -> x.fate(99));
            for (int k = 0; k < x.asked(); k++) {
                int place = k;
                CHECK.dueThrow(name + "askedAt " + k, null, () -> x.askedAt(place));
            }
        }
    }
}
