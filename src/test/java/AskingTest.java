/** Promises 11 to 13: what is had, and what is asked for. */
public final class AskingTest {
    private static final Check CHECK = new Check("AskingTest");

    public static void main(String[] args) {
        hadOnlyWhenTaken();
        askedByRisingNumbers();
        askedOnce();
        askedBelowTheHighestOnly();
        notAskedWhileItOnlyWaits();
        notAskedBehindItsTurn();
        askedAheadOfTheTurnOfThatTick();
        notAskedBehindTheFilm();
        resetAsksForNothing();
        CHECK.end();
    }

    private static void hadOnlyWhenTaken() {
        FilmPlayer x = new FilmPlayer();
        x.arrive(0);
        x.arrive(299);
        x.advance(3);
        CHECK.due("has 0 while it waits", x.has(0), false);
        CHECK.due("has 299 while it waits", x.has(299), false);
        x.advance(1);
        CHECK.due("has 0", x.has(0), true);
        CHECK.due("has 299", x.has(299), true);
        CHECK.due("has 1", x.has(1), false);
        CHECK.due("has 298", x.has(298), false);
        CHECK.due("asked", x.asked(), 298);
        CHECK.due("askedAt 0", x.askedAt(0), 1);
        CHECK.due("askedAt 297", x.askedAt(297), 298);
    }

    private static void askedByRisingNumbers() {
        FilmPlayer x = Players.quick();
        x.arrive(7);
        x.arrive(3);
        x.arrive(5);
        x.advance(1);
        int[] due = {0, 1, 2, 4, 6};
        CHECK.due("asked", x.asked(), due.length);
        for (int k = 0; k < due.length; k++) {
            CHECK.due("askedAt " + k, x.askedAt(k), due[k]);
        }
        CHECK.dueThrow("askedAt 5", IndexOutOfBoundsException.class, () -> x.askedAt(5));
        CHECK.dueThrow("askedAt -1", IndexOutOfBoundsException.class, () -> x.askedAt(-1));
    }

    private static void askedOnce() {
        FilmPlayer x = Players.quick();
        x.arrive(3);
        x.advance(10);
        CHECK.due("asked", x.asked(), 3);
        x.arrive(1);
        x.advance(10);
        CHECK.due("asked when one of them came", x.asked(), 3);
        x.arrive(6);
        x.advance(10);
        CHECK.due("asked when a higher one came", x.asked(), 5);
        CHECK.due("askedAt 2", x.askedAt(2), 2);
        CHECK.due("askedAt 3", x.askedAt(3), 4);
        CHECK.due("askedAt 4", x.askedAt(4), 5);
    }

    private static void askedBelowTheHighestOnly() {
        FilmPlayer x = Players.quick();
        x.arrive(0);
        x.advance(1);
        CHECK.due("asked below 0", x.asked(), 0);
        x.arriveRow(1, 30);
        x.advance(1);
        CHECK.due("asked in a full row", x.asked(), 0);
        x.arrive(32);
        x.advance(1);
        CHECK.due("asked below 32", x.asked(), 1);
        CHECK.due("askedAt 0", x.askedAt(0), 31);
        x.arrive(4);
        x.advance(1);
        CHECK.due("asked when a lower one came again", x.asked(), 1);
    }

    private static void notAskedWhileItOnlyWaits() {
        FilmPlayer x = new FilmPlayer();
        x.arrive(50);
        x.advance(3);
        CHECK.due("asked while 50 waits", x.asked(), 0);
        x.advance(1);
        CHECK.due("asked when 50 is taken", x.asked(), 50);

        // what waits in the ring is not had: it is asked for
        x = new FilmPlayer();
        x.set(32, 1, 50, 1);
        x.arrive(0);
        x.advance(1);
        x.arrive(20);
        for (int packet = 1; packet <= 6; packet++) {
            x.arrive(packet);
        }
        x.advance(1);
        CHECK.due("6 waits", x.waiting(), 1);
        CHECK.due("asked, 6 to 19", x.asked(), 14);
        CHECK.due("askedAt 0", x.askedAt(0), 6);
    }

    /** The turns are at 0, 10, 21, 32, 43. */
    private static void notAskedBehindItsTurn() {
        FilmPlayer x = Players.begun(9);
        x.advance(32);
        CHECK.due("tick", x.tick(), 33);
        CHECK.due("next", x.next(), 4);
        x.arrive(20);
        x.advance(1);
        CHECK.due("asked, 12 to 19", x.asked(), 8);
        CHECK.due("askedAt 0", x.askedAt(0), 12);
        CHECK.due("askedAt 7", x.askedAt(7), 19);
    }

    private static void askedAheadOfTheTurnOfThatTick() {
        FilmPlayer x = Players.begun(9);
        x.advance(31);
        CHECK.due("tick", x.tick(), 32);
        CHECK.due("turn", x.turn(), 32);
        x.arrive(20);
        x.advance(1);
        CHECK.due("next", x.next(), 4);
        CHECK.due("asked, 9 to 19", x.asked(), 11);
        CHECK.due("askedAt 0", x.askedAt(0), 9);
    }

    private static void notAskedBehindTheFilm() {
        FilmPlayer x = Players.begun(9);
        for (int k = 0; k < 11; k++) {
            x.advance(100);
        }
        CHECK.due("next", x.next(), FilmPlayer.NONE);
        x.arrive(299);
        x.advance(1);
        CHECK.due("has 299", x.has(299), true);
        CHECK.due("asked", x.asked(), 0);
    }

    private static void resetAsksForNothing() {
        FilmPlayer x = Players.quick();
        x.arrive(9);
        x.reset();
        x.advance(1);
        CHECK.due("asked", x.asked(), 0);
        x.arrive(2);
        x.advance(1);
        x.arrive(3);
        x.reset();
        CHECK.due("asked behind a reset", x.asked(), 2);
        CHECK.due("has 2 behind a reset", x.has(2), true);
    }
}
