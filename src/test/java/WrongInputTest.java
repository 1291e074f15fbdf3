/** Promises 2 to 5, 11, 12 and 14 to 17: what is thrown, which comes first, and that nothing changes by it. */
public final class WrongInputTest {
    private static final Check CHECK = new Check("WrongInputTest");
    private static final Class<IllegalArgumentException> ARGUMENT = IllegalArgumentException.class;
    private static final Class<IndexOutOfBoundsException> INDEX = IndexOutOfBoundsException.class;
    private static final Class<IllegalStateException> STATE = IllegalStateException.class;
    private static final int LEAST = Integer.MIN_VALUE;
    private static final int MOST = Integer.MAX_VALUE;

    public static void main(String[] args) {
        for (int age = 0; age < 4; age++) {
            throwsAndChangesNothing(age);
        }
        edgesThatDoNotThrow();
        stateComesSecond();
        CHECK.end();
    }

    private static FilmPlayer ofAge(int age) {
        FilmPlayer x = new FilmPlayer();
        if (age > 0) {
            x.set(20, 3, 7, 5);
            x.arriveRow(0, 15);
            x.advance(1);
            x.arriveRow(20, 10);
        }
        if (age > 1) {
            x.advance(95);
            x.arriveRow(100, 2);
            x.advance(2);
        }
        if (age > 2) {
            for (int k = 0; k < 12; k++) {
                x.advance(100);
            }
            x.arrive(2);
        }
        return x;
    }

    private static void throwsAndChangesNothing(int age) {
        FilmPlayer x = ofAge(age);
        FilmPlayer twin = ofAge(age);
        String before = Picture.of(x);
        wrongSettings(x);
        wrongArrivals(x);
        wrongTicks(x);
        wrongPackets(x);
        wrongFrames(x);
        CHECK.due("age " + age + ": after wrong calls", Picture.of(x), before);
        CHECK.due("age " + age + ": later", later(x), later(twin));
    }

    /** What a player answers from here on shows its settings, and the ticks at which packets came. */
    private static String later(FilmPlayer x) {
        StringBuilder text = new StringBuilder();
        for (int k = 0; k < 12; k++) {
            text.append(x.advance(1)).append(' ').append(x.waiting()).append(' ').append(x.isPolled()).append('\n');
        }
        text.append(x.arriveRow(60, 30)).append('\n');
        for (int k = 0; k < 12; k++) {
            text.append(x.advance(1)).append(' ').append(x.waiting()).append(' ').append(x.isPolled()).append('\n');
            text.append(x.arrive(k)).append('\n');
        }
        return text.append(Picture.of(x)).toString();
    }

    private static void wrongSettings(FilmPlayer x) {
        int[] sizes = {0, 33, -1, LEAST, MOST};
        int[] patiences = {0, 51, -1, LEAST, MOST};
        for (int k = 0; k < sizes.length; k++) {
            int wrong = sizes[k];
            int patience = patiences[k];
            CHECK.dueThrow("set size " + wrong, ARGUMENT, () -> x.set(wrong, 1, 1, 1));
            CHECK.dueThrow("set join " + wrong, ARGUMENT, () -> x.set(1, wrong, 1, 1));
            CHECK.dueThrow("set patience " + patience, ARGUMENT, () -> x.set(1, 1, patience, 1));
            CHECK.dueThrow("set load " + wrong, ARGUMENT, () -> x.set(1, 1, 1, wrong));
            CHECK.dueThrow("set all " + wrong, ARGUMENT, () -> x.set(wrong, wrong, wrong, wrong));
        }
    }

    private static void wrongArrivals(FilmPlayer x) {
        int[] packets = {-1, 300, 301, LEAST, MOST};
        for (int packet : packets) {
            CHECK.dueThrow("arrive " + packet, INDEX, () -> x.arrive(packet));
            CHECK.dueThrow("arriveRow " + packet + ", 1", INDEX, () -> x.arriveRow(packet, 1));
            CHECK.dueThrow("arriveRow " + packet + ", 0", INDEX, () -> x.arriveRow(packet, 0));
            CHECK.dueThrow("arriveRow " + packet + ", 31", INDEX, () -> x.arriveRow(packet, 31));
            CHECK.dueThrow("arriveRow " + packet + ", most", INDEX, () -> x.arriveRow(packet, MOST));
            CHECK.dueThrow("arriveRow " + packet + ", least", INDEX, () -> x.arriveRow(packet, LEAST));
        }
        CHECK.dueThrow("arriveRow 299, 2", INDEX, () -> x.arriveRow(299, 2));
        CHECK.dueThrow("arriveRow 271, 30", INDEX, () -> x.arriveRow(271, 30));
        CHECK.dueThrow("arriveRow 270, 31", INDEX, () -> x.arriveRow(270, 31));
        CHECK.dueThrow("arriveRow 0, 301", INDEX, () -> x.arriveRow(0, 301));
        CHECK.dueThrow("arriveRow 0, most", INDEX, () -> x.arriveRow(0, MOST));
        CHECK.dueThrow("arriveRow 299, most", INDEX, () -> x.arriveRow(299, MOST));
        CHECK.dueThrow("arriveRow 269, 31", ARGUMENT, () -> x.arriveRow(269, 31));
        CHECK.dueThrow("arriveRow 0, 300", ARGUMENT, () -> x.arriveRow(0, 300));
        CHECK.dueThrow("arriveRow 0, 31", ARGUMENT, () -> x.arriveRow(0, 31));
        CHECK.dueThrow("arriveRow 0, 0", ARGUMENT, () -> x.arriveRow(0, 0));
        CHECK.dueThrow("arriveRow 299, 0", ARGUMENT, () -> x.arriveRow(299, 0));
        CHECK.dueThrow("arriveRow 299, -1", ARGUMENT, () -> x.arriveRow(299, -1));
        CHECK.dueThrow("arriveRow 0, least", ARGUMENT, () -> x.arriveRow(0, LEAST));
        CHECK.dueThrow("arriveRow 299, least", ARGUMENT, () -> x.arriveRow(299, LEAST));
    }

    private static void wrongTicks(FilmPlayer x) {
        int[] wrong = {0, 101, -1, -100, 20001, LEAST, MOST};
        for (int ticks : wrong) {
            CHECK.dueThrow("advance " + ticks, ARGUMENT, () -> x.advance(ticks));
        }
    }

    private static void wrongPackets(FilmPlayer x) {
        int[] packets = {-1, 300, LEAST, MOST};
        for (int packet : packets) {
            CHECK.dueThrow("has " + packet, INDEX, () -> x.has(packet));
            CHECK.dueThrow("askedAt " + packet, INDEX, () -> x.askedAt(packet));
        }
        CHECK.dueThrow("askedAt as many as were", INDEX, () -> x.askedAt(x.asked()));
    }

    private static void wrongFrames(FilmPlayer x) {
        int[] frames = {-1, 100, 101, LEAST, MOST};
        for (int frame : frames) {
            CHECK.dueThrow("kindOf " + frame, INDEX, () -> x.kindOf(frame));
            CHECK.dueThrow("need before " + frame, INDEX, () -> x.need(frame, false));
            CHECK.dueThrow("need behind " + frame, INDEX, () -> x.need(frame, true));
            CHECK.dueThrow("isWhole " + frame, INDEX, () -> x.isWhole(frame));
            CHECK.dueThrow("fate " + frame, INDEX, () -> x.fate(frame));
        }
    }

    private static void edgesThatDoNotThrow() {
        FilmPlayer x = new FilmPlayer();
        CHECK.dueThrow("set least", null, () -> x.set(1, 1, 1, 1));
        CHECK.dueThrow("set most", null, () -> x.set(32, 32, 50, 32));
        CHECK.dueThrow("arrive 0", null, () -> x.arrive(0));
        CHECK.dueThrow("arrive 299", null, () -> x.arrive(299));
        CHECK.dueThrow("arriveRow 0, 1", null, () -> x.arriveRow(0, 1));
        CHECK.dueThrow("arriveRow 0, 30", null, () -> x.arriveRow(0, 30));
        CHECK.dueThrow("arriveRow 270, 30", null, () -> x.arriveRow(270, 30));
        CHECK.dueThrow("arriveRow 299, 1", null, () -> x.arriveRow(299, 1));
        CHECK.dueThrow("advance 1", null, () -> x.advance(1));
        CHECK.dueThrow("advance 100", null, () -> x.advance(100));
        CHECK.dueThrow("has 299", null, () -> x.has(299));
        CHECK.dueThrow("askedAt the last", null, () -> x.askedAt(x.asked() - 1));
        CHECK.dueThrow("need 99", null, () -> x.need(99, true));
        CHECK.dueThrow("fate 99", null, () -> x.fate(99));
    }

    private static void stateComesSecond() {
        FilmPlayer x = new FilmPlayer();
        for (int k = 0; k < 199; k++) {
            x.advance(100);
        }
        x.advance(90);
        x.arriveRow(0, 9);
        String before = Picture.of(x);
        CHECK.dueThrow("advance 11", STATE, () -> x.advance(11));
        CHECK.dueThrow("advance 100", STATE, () -> x.advance(100));
        wrongTicks(x);
        CHECK.due("after wrong calls", Picture.of(x), before);
        CHECK.due("advance 10", x.advance(10), 20000);
        CHECK.dueThrow("advance 1", STATE, () -> x.advance(1));
        wrongTicks(x);
        CHECK.due("has 8", x.has(8), true);
        CHECK.due("next", x.next(), 1);
        CHECK.due("turn", x.turn(), 20000);
    }
}
