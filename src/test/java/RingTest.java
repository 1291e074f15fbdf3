/** Promises 1 to 10: a new object, the settings, and the ring between the card and its driver. */
public final class RingTest {
    private static final Check CHECK = new Check("RingTest");

    public static void main(String[] args) {
        newObject();
        newObjectsSettings();
        setKeepsWhatWaits();
        setCountsFromThenOn();
        arriveAgain();
        arriveRowLosesItsEnd();
        joinTakesAll();
        patienceCountsFromTheFirst();
        patienceRestartsWithTheNextFirst();
        loadPolls();
        loadWithoutJoin();
        pollTakesSixAtMost();
        pollGoesBackWithoutTaking();
        setLeavesTheDriver();
        resetLosesAndJoins();
        advanceUpToTheLastTick();
        CHECK.end();
    }

    private static void newObject() {
        FilmPlayer x = new FilmPlayer();
        CHECK.due("new: tick", x.tick(), 0);
        CHECK.due("new: waiting", x.waiting(), 0);
        CHECK.due("new: lost", x.lost(), 0);
        CHECK.due("new: isPolled", x.isPolled(), false);
        CHECK.due("new: asked", x.asked(), 0);
        CHECK.due("new: next", x.next(), 0);
        CHECK.due("new: turn", x.turn(), FilmPlayer.NONE);
        CHECK.due("new: fill", x.fill(), 0);
        CHECK.due("new: shown", x.shown(), 0);
        CHECK.due("new: couldBe", x.couldBe(), 0);
        CHECK.due("new: gap", x.gap(), 0);
        CHECK.due("new: reset", x.reset(), 0);
        for (int packet = 0; packet < 300; packet++) {
            CHECK.due("new: has " + packet, x.has(packet), false);
        }
        for (int frame = 0; frame < 100; frame++) {
            CHECK.due("new: isWhole " + frame, x.isWhole(frame), false);
            CHECK.due("new: fate " + frame, x.fate(frame), FilmPlayer.TO_COME);
        }
    }

    private static void newObjectsSettings() {
        FilmPlayer x = new FilmPlayer();
        CHECK.due("size 16: lost of 17", x.arriveRow(0, 17), 1);
        CHECK.due("size 16: waiting", x.waiting(), 16);

        x = new FilmPlayer();
        x.arriveRow(0, 4);
        x.advance(1);
        CHECK.due("join 4: waiting", x.waiting(), 0);
        x = new FilmPlayer();
        x.arriveRow(0, 3);
        x.advance(3);
        CHECK.due("join 4, patience 3: 3 wait at the tick 3", x.waiting(), 3);
        x.advance(1);
        CHECK.due("patience 3: none wait at the tick 4", x.waiting(), 0);

        x = new FilmPlayer();
        x.arriveRow(0, 7);
        x.advance(1);
        CHECK.due("load 8: 7 do not poll", x.isPolled(), false);
        x = new FilmPlayer();
        x.arriveRow(0, 8);
        x.advance(1);
        CHECK.due("load 8: 8 poll", x.isPolled(), true);
    }

    private static void setKeepsWhatWaits() {
        FilmPlayer x = new FilmPlayer();
        x.set(32, 32, 50, 32);
        CHECK.due("size 32: lost of 30", x.arriveRow(0, 30), 0);
        CHECK.due("size 32: arrive", x.arrive(30), 31);
        CHECK.due("size 32: arrive", x.arrive(31), 32);
        CHECK.due("size 32: arrive beyond", x.arrive(32), FilmPlayer.NONE);
        x.set(1, 32, 50, 32);
        CHECK.due("size 1: what waits stays", x.waiting(), 32);
        CHECK.due("size 1: nothing was lost by that", x.lost(), 1);
        CHECK.due("size 1: arrive", x.arrive(40), FilmPlayer.NONE);
        CHECK.due("size 1: arriveRow", x.arriveRow(40, 5), 5);
        CHECK.due("size 1: lost", x.lost(), 7);
        x.advance(1);
        CHECK.due("size 1: all are taken", x.waiting(), 0);
        CHECK.due("size 1: 32 is the load", x.isPolled(), true);
        CHECK.due("size 1: the last one is had", x.has(31), true);
        CHECK.due("size 1: a lost one is not had", x.has(40), false);
        CHECK.due("size 1: arrive", x.arrive(40), 1);
        CHECK.due("size 1: arrive", x.arrive(41), FilmPlayer.NONE);
    }

    private static void setCountsFromThenOn() {
        FilmPlayer x = new FilmPlayer();
        x.arriveRow(0, 3);
        x.advance(2);
        x.set(16, 3, 50, 8);
        x.advance(1);
        CHECK.due("a smaller join: waiting", x.waiting(), 0);
        x = new FilmPlayer();
        x.set(16, 32, 50, 8);
        x.arrive(0);
        x.advance(20);
        x.set(16, 32, 20, 8);
        x.advance(1);
        CHECK.due("a smaller patience: waiting", x.waiting(), 0);
        x = new FilmPlayer();
        x.set(16, 32, 50, 8);
        x.arrive(0);
        x.advance(50);
        CHECK.due("patience 50: waits at the tick 50", x.waiting(), 1);
        x.advance(1);
        CHECK.due("patience 50: taken then", x.waiting(), 0);
    }

    private static void arriveAgain() {
        FilmPlayer x = new FilmPlayer();
        CHECK.due("arrive 7", x.arrive(7), 1);
        CHECK.due("arrive 7 again", x.arrive(7), 2);
        CHECK.due("arrive 299", x.arrive(299), 3);
        CHECK.due("arrive 0", x.arrive(0), 4);
        CHECK.due("has 7 while it waits", x.has(7), false);
        x.advance(1);
        CHECK.due("has 7", x.has(7), true);
        CHECK.due("has 299", x.has(299), true);
        CHECK.due("has 0", x.has(0), true);
        CHECK.due("has 8", x.has(8), false);
        CHECK.due("arrive 7 when it is had", x.arrive(7), 1);
        CHECK.due("waiting", x.waiting(), 1);
        x.advance(4);
        CHECK.due("waiting", x.waiting(), 0);
        CHECK.due("has 7 still", x.has(7), true);
        CHECK.due("lost", x.lost(), 0);

        x = new FilmPlayer();
        for (int k = 0; k < 8; k++) {
            x.arrive(5);
        }
        x.advance(1);
        CHECK.due("the same one 8 times polls", x.isPolled(), true);
    }

    private static void arriveRowLosesItsEnd() {
        FilmPlayer x = new FilmPlayer();
        x.set(5, 32, 50, 32);
        CHECK.due("arriveRow(290, 10)", x.arriveRow(290, 10), 5);
        CHECK.due("arriveRow(0, 30)", x.arriveRow(0, 30), 30);
        CHECK.due("lost", x.lost(), 35);
        x.set(5, 1, 50, 32);
        x.advance(1);
        CHECK.due("has 294", x.has(294), true);
        CHECK.due("has 295", x.has(295), false);
        CHECK.due("has 0", x.has(0), false);
        CHECK.due("arriveRow(299, 1)", x.arriveRow(299, 1), 0);
        CHECK.due("arriveRow(270, 30)", x.arriveRow(270, 30), 26);
        CHECK.due("waiting", x.waiting(), 5);
    }

    private static void joinTakesAll() {
        FilmPlayer x = new FilmPlayer();
        x.set(32, 5, 50, 32);
        x.arriveRow(0, 4);
        x.advance(10);
        CHECK.due("below the join: waiting", x.waiting(), 4);
        x.arriveRow(4, 20);
        x.advance(1);
        CHECK.due("above the join: waiting", x.waiting(), 0);
        CHECK.due("above the join: has 23", x.has(23), true);
        CHECK.due("below the load", x.isPolled(), false);
    }

    private static void patienceCountsFromTheFirst() {
        FilmPlayer x = new FilmPlayer();
        x.set(16, 32, 5, 8);
        x.advance(7);
        x.arrive(0);
        x.advance(4);
        x.arrive(1);
        x.advance(1);
        CHECK.due("at the tick 12 both wait", x.waiting(), 2);
        x.advance(1);
        CHECK.due("at the tick 13 both are taken", x.waiting(), 0);
        CHECK.due("has 1", x.has(1), true);
        x = new FilmPlayer();
        x.set(16, 32, 1, 8);
        x.arrive(0);
        x.advance(1);
        CHECK.due("patience 1: waits a tick", x.waiting(), 1);
        x.advance(1);
        CHECK.due("patience 1: is taken", x.waiting(), 0);
    }

    private static void patienceRestartsWithTheNextFirst() {
        FilmPlayer x = new FilmPlayer();
        x.set(32, 32, 3, 1);
        x.arrive(0);
        x.advance(4);
        CHECK.due("polled", x.isPolled(), true);
        x.arriveRow(1, 6);
        x.advance(1);
        x.arrive(7);
        x.reset();
        x.advance(1);
        x.arrive(8);
        x.advance(3);
        CHECK.due("behind a reset: waits", x.waiting(), 1);
        x.advance(1);
        CHECK.due("behind a reset: is taken", x.waiting(), 0);
        CHECK.due("what a reset lost is not had", x.has(7), false);
    }

    private static void loadPolls() {
        FilmPlayer x = new FilmPlayer();
        x.set(32, 10, 50, 10);
        x.arriveRow(0, 9);
        x.advance(1);
        CHECK.due("below join and load", x.isPolled(), false);
        x.arrive(9);
        CHECK.due("polled only when a tick passes", x.isPolled(), false);
        x.advance(1);
        CHECK.due("as many as the load", x.isPolled(), true);
        CHECK.due("all were taken, not 6", x.waiting(), 0);
    }

    private static void loadWithoutJoin() {
        FilmPlayer x = new FilmPlayer();
        x.set(32, 32, 2, 3);
        x.arriveRow(0, 5);
        x.advance(2);
        CHECK.due("no interrupt, so no polling", x.isPolled(), false);
        x.advance(1);
        CHECK.due("polled by patience", x.isPolled(), true);
        x = new FilmPlayer();
        x.set(32, 1, 50, 1);
        x.advance(5);
        CHECK.due("nothing came", x.isPolled(), false);
    }

    private static void pollTakesSixAtMost() {
        FilmPlayer x = new FilmPlayer();
        x.set(32, 1, 50, 1);
        x.arrive(299);
        x.advance(1);
        CHECK.due("polled", x.isPolled(), true);
        x.arriveRow(0, 20);
        x.advance(1);
        CHECK.due("6 of 20", x.waiting(), 14);
        CHECK.due("has 5", x.has(5), true);
        CHECK.due("has 6", x.has(6), false);
        CHECK.due("arrive behind", x.arrive(50), 15);
        x.advance(1);
        CHECK.due("6 of 15", x.waiting(), 9);
        CHECK.due("has 11", x.has(11), true);
        CHECK.due("has 12", x.has(12), false);
        CHECK.due("has 50", x.has(50), false);
        x.advance(1);
        CHECK.due("6 of 9", x.waiting(), 3);
        x.advance(1);
        CHECK.due("3 of 3", x.waiting(), 0);
        CHECK.due("has 50", x.has(50), true);
        CHECK.due("polled still", x.isPolled(), true);
        x.advance(1);
        CHECK.due("joined again", x.isPolled(), false);
    }

    private static void pollGoesBackWithoutTaking() {
        FilmPlayer x = new FilmPlayer();
        x.set(32, 6, 50, 6);
        x.arriveRow(0, 6);
        x.advance(1);
        CHECK.due("polled", x.isPolled(), true);
        x.arrive(6);
        x.advance(1);
        CHECK.due("one is taken", x.waiting(), 0);
        CHECK.due("so it is polled still", x.isPolled(), true);
        x.advance(1);
        CHECK.due("none waited", x.isPolled(), false);
        x.arriveRow(7, 5);
        x.advance(1);
        CHECK.due("joined: 5 wait", x.waiting(), 5);
        x.arrive(12);
        x.advance(1);
        CHECK.due("joined: 6 are taken", x.waiting(), 0);
        CHECK.due("polled", x.isPolled(), true);
    }

    private static void setLeavesTheDriver() {
        FilmPlayer x = new FilmPlayer();
        x.set(32, 1, 1, 1);
        x.arrive(0);
        x.advance(1);
        x.set(32, 32, 50, 32);
        CHECK.due("set leaves the driver polled", x.isPolled(), true);
        x.arrive(1);
        x.advance(1);
        CHECK.due("it takes by polling", x.waiting(), 0);
    }

    private static void resetLosesAndJoins() {
        FilmPlayer x = new FilmPlayer();
        x.set(32, 1, 50, 1);
        x.arriveRow(0, 3);
        x.advance(1);
        x.arriveRow(3, 10);
        x.advance(1);
        CHECK.due("polled", x.isPolled(), true);
        CHECK.due("reset", x.reset(), 4);
        CHECK.due("joined", x.isPolled(), false);
        CHECK.due("waiting", x.waiting(), 0);
        CHECK.due("lost", x.lost(), 4);
        CHECK.due("tick", x.tick(), 2);
        CHECK.due("reset again", x.reset(), 0);
        x.advance(5);
        CHECK.due("has 8", x.has(8), true);
        CHECK.due("has 9", x.has(9), false);
        x.set(2, 1, 50, 1);
        x.arriveRow(20, 5);
        CHECK.due("lost in the ring too", x.lost(), 7);
        CHECK.due("the settings stayed: reset", x.reset(), 2);
        CHECK.due("lost", x.lost(), 9);
    }

    private static void advanceUpToTheLastTick() {
        FilmPlayer x = new FilmPlayer();
        CHECK.due("advance 1", x.advance(1), 1);
        CHECK.due("advance 99", x.advance(99), 100);
        CHECK.due("tick", x.tick(), 100);
        for (int k = 2; k <= 199; k++) {
            CHECK.due("advance 100", x.advance(100), 100 * k);
        }
        CHECK.due("advance 51", x.advance(51), 19951);
        CHECK.dueThrow("advance 50", IllegalStateException.class, () -> x.advance(50));
        CHECK.due("tick", x.tick(), 19951);
        CHECK.due("advance 49", x.advance(49), 20000);
        CHECK.dueThrow("advance 1", IllegalStateException.class, () -> x.advance(1));
        CHECK.dueThrow("advance 0", IllegalArgumentException.class, () -> x.advance(0));
        CHECK.dueThrow("advance 101", IllegalArgumentException.class, () -> x.advance(101));
        CHECK.due("tick", x.tick(), 20000);
    }
}
