/** The sentences of "The ring" and of its step 1, each at its edges. Each test quotes its sentence. */
public final class RingEdgeTest {
    private static final Check CHECK = new Check("RingEdgeTest");

    public static void main(String[] args) {
        waitsBehindThoseThatWait();
        waitsWithItsTick();
        lostAtTheSize();
        lostAboveTheSize();
        roomAgain();
        joinedAtFirst();
        asManyAsTheJoin();
        joinAboveTheSize();
        asOldAsThePatience();
        olderThanThePatience();
        firstOneCounts();
        noneWaits();
        allAreTaken();
        asManyAsTheLoad();
        loadByPatience();
        loadCountsWhatIsTaken();
        polledFromTheNextTickOn();
        sixAtMost();
        polledNeedsNoJoin();
        staysPolledWhileOneWaits();
        joinedWhenNoneWaits();
        joinedThenTakesByTheJoin();
        hadFromThenOn();
        CHECK.end();
    }

    /** "A packet that arrives waits in the ring, behind those that wait" */
    private static void waitsBehindThoseThatWait() {
        FilmPlayer x = Players.polled();
        int[] packets = {250, 3, 111, 7, 299, 2, 9, 1};
        for (int k = 0; k < packets.length; k++) {
            CHECK.due("arrive " + packets[k], x.arrive(packets[k]), k + 1);
        }
        x.advance(1);
        for (int k = 0; k < packets.length; k++) {
            CHECK.due("has " + packets[k] + ", number " + k, x.has(packets[k]), k < 6);
        }
        x.arrive(4);
        x.advance(1);
        CHECK.due("has 9", x.has(9), true);
        CHECK.due("has 1", x.has(1), true);
        CHECK.due("has 4", x.has(4), true);
    }

    /** "with the tick at which it came" */
    private static void waitsWithItsTick() {
        for (int came = 0; came < 6; came++) {
            FilmPlayer x = new FilmPlayer();
            x.set(32, 32, 5, 32);
            Players.goTo(x, came);
            x.arrive(0);
            x.advance(5);
            CHECK.due("came at " + came + ", waits", x.waiting(), 1);
            x.advance(1);
            CHECK.due("came at " + came + ", is taken", x.waiting(), 0);
        }
    }

    /** "if as many wait as the size, it is lost" */
    private static void lostAtTheSize() {
        for (int size = 1; size <= 32; size++) {
            FilmPlayer x = new FilmPlayer();
            x.set(size, 32, 50, 32);
            for (int k = 1; k <= size; k++) {
                CHECK.due("size " + size + ", arrive", x.arrive(k), k);
            }
            CHECK.due("size " + size + ", lost of as many", x.lost(), 0);
            CHECK.due("size " + size + ", arrive at the size", x.arrive(0), FilmPlayer.NONE);
            CHECK.due("size " + size + ", lost", x.lost(), 1);
            CHECK.due("size " + size + ", waiting", x.waiting(), size);
        }
    }

    /** The same if more wait than the size, as a set has left them. */
    private static void lostAboveTheSize() {
        FilmPlayer x = new FilmPlayer();
        x.set(4, 32, 50, 32);
        x.arriveRow(0, 4);
        x.set(3, 32, 50, 32);
        CHECK.due("4 wait, size 3: arrive", x.arrive(9), FilmPlayer.NONE);
        x.set(4, 32, 50, 32);
        CHECK.due("4 wait, size 4: arrive", x.arrive(9), FilmPlayer.NONE);
        x.set(5, 32, 50, 32);
        CHECK.due("4 wait, size 5: arrive", x.arrive(9), 5);
        CHECK.due("5 wait, size 5: arrive", x.arrive(9), FilmPlayer.NONE);
        CHECK.due("lost", x.lost(), 3);
        CHECK.due("waiting", x.waiting(), 5);
    }

    /** What is taken or reset makes room, up to the size and no further, round by round. */
    private static void roomAgain() {
        FilmPlayer x = Players.polled();
        x.set(8, 32, 50, 32);
        CHECK.due("8 of 9 wait", x.arriveRow(10, 9), 1);
        for (int round = 0; round < 12; round++) {
            x.advance(1);
            CHECK.due("round " + round + ", waiting", x.waiting(), 2);
            CHECK.due("round " + round + ", lost of 7", x.arriveRow(20 + 7 * round, 7), 1);
            CHECK.due("round " + round + ", waiting", x.waiting(), 8);
        }
        CHECK.due("reset", x.reset(), 8);
        CHECK.due("lost of 9", x.arriveRow(10, 9), 1);
        CHECK.due("lost", x.lost(), 22);
    }

    /** "The driver is JOINED at first." */
    private static void joinedAtFirst() {
        FilmPlayer x = new FilmPlayer();
        CHECK.due("isPolled at first", x.isPolled(), false);
        x.arriveRow(0, 3);
        x.advance(1);
        CHECK.due("no polling takes them at first", x.waiting(), 3);
    }

    /** "if as many packets wait as the join or more" */
    private static void asManyAsTheJoin() {
        for (int join = 1; join <= 32; join++) {
            for (int many = Math.max(0, join - 1); many <= Math.min(32, join + 1); many++) {
                FilmPlayer x = new FilmPlayer();
                x.set(32, join, 50, 32);
                for (int k = 0; k < many; k++) {
                    x.arrive(k);
                }
                x.advance(1);
                CHECK.due("join " + join + ", " + many + " wait", x.waiting(), many < join ? many : 0);
            }
        }
    }

    private static void joinAboveTheSize() {
        FilmPlayer x = new FilmPlayer();
        x.set(5, 6, 50, 32);
        x.arriveRow(0, 10);
        x.advance(50);
        CHECK.due("join 6, size 5: they wait", x.waiting(), 5);
        x.advance(1);
        CHECK.due("join 6, size 5: the patience ends it", x.waiting(), 0);
    }

    /** "or the first one has come as many ticks ago as the patience or more" */
    private static void asOldAsThePatience() {
        for (int patience = 1; patience <= 50; patience++) {
            FilmPlayer x = new FilmPlayer();
            x.set(32, 32, patience, 32);
            x.advance(10);
            x.arrive(0);
            x.advance(patience);
            CHECK.due("patience " + patience + ", a tick ahead of it", x.waiting(), 1);
            x.advance(1);
            CHECK.due("patience " + patience + ", at it", x.waiting(), 0);
        }
    }

    /** "or more" */
    private static void olderThanThePatience() {
        FilmPlayer x = new FilmPlayer();
        x.set(32, 32, 50, 32);
        x.arrive(0);
        x.advance(12);
        x.set(32, 32, 13, 32);
        x.advance(1);
        CHECK.due("12 ticks ago, patience 13", x.waiting(), 1);
        x.set(32, 32, 2, 32);
        x.advance(1);
        CHECK.due("13 ticks ago, patience 2", x.waiting(), 0);
    }

    /** "the first one" */
    private static void firstOneCounts() {
        FilmPlayer x = new FilmPlayer();
        x.set(32, 32, 4, 32);
        x.arrive(0);
        x.advance(1);
        x.arrive(1);
        x.advance(2);
        x.arrive(2);
        x.advance(1);
        CHECK.due("the first came 3 ticks ago", x.waiting(), 3);
        x.advance(1);
        CHECK.due("the first came 4 ticks ago", x.waiting(), 0);
        CHECK.due("the last one is taken with it", x.has(2), true);
        x.arrive(3);
        x.advance(4);
        CHECK.due("the next first came 3 ticks ago", x.waiting(), 1);
        x.advance(1);
        CHECK.due("the next first came 4 ticks ago", x.waiting(), 0);
    }

    private static void noneWaits() {
        FilmPlayer x = new FilmPlayer();
        x.set(1, 1, 1, 1);
        x.advance(100);
        CHECK.due("none waits: isPolled", x.isPolled(), false);
        CHECK.due("none waits: waiting", x.waiting(), 0);
        CHECK.due("none waits: lost", x.lost(), 0);
        CHECK.due("none waits: has 0", x.has(0), false);
        x.arrive(0);
        x.reset();
        x.advance(2);
        CHECK.due("none waits behind a reset: isPolled", x.isPolled(), false);
        CHECK.due("none waits behind a reset: has 0", x.has(0), false);
    }

    /** "all are taken" */
    private static void allAreTaken() {
        for (int many = 1; many <= 32; many++) {
            FilmPlayer x = new FilmPlayer();
            x.set(32, 1, 50, 32);
            for (int k = 0; k < many; k++) {
                x.arrive(100 + k);
            }
            x.advance(1);
            CHECK.due("all of " + many + ": waiting", x.waiting(), 0);
            for (int k = 0; k < many; k++) {
                CHECK.due("all of " + many + ": has " + (100 + k), x.has(100 + k), true);
            }
            CHECK.due("all of " + many + ": has one more", x.has(100 + many), false);
        }
    }

    /** "if these are as many as the load or more, the driver is POLLED" */
    private static void asManyAsTheLoad() {
        for (int load = 1; load <= 32; load++) {
            for (int many = Math.max(1, load - 1); many <= Math.min(32, load + 1); many++) {
                FilmPlayer x = new FilmPlayer();
                x.set(32, 1, 50, load);
                for (int k = 0; k < many; k++) {
                    x.arrive(k);
                }
                x.advance(1);
                CHECK.due("load " + load + ", " + many + " taken", x.isPolled(), many >= load);
                CHECK.due("load " + load + ", " + many + " taken: waiting", x.waiting(), 0);
            }
        }
    }

    private static void loadByPatience() {
        for (int many = 2; many <= 4; many++) {
            FilmPlayer x = new FilmPlayer();
            x.set(32, 32, 1, 3);
            x.arriveRow(0, many);
            x.advance(2);
            CHECK.due("load 3, patience takes " + many, x.isPolled(), many >= 3);
        }
    }

    /** "these": what is taken at that tick, not what waits and is not taken, nor what was lost. */
    private static void loadCountsWhatIsTaken() {
        FilmPlayer x = new FilmPlayer();
        x.set(32, 9, 50, 3);
        x.arriveRow(0, 8);
        x.advance(1);
        CHECK.due("8 wait and are not taken", x.isPolled(), false);
        x = new FilmPlayer();
        x.set(2, 1, 50, 3);
        x.arriveRow(0, 20);
        x.advance(1);
        CHECK.due("2 are taken, 18 were lost", x.isPolled(), false);
        x.arriveRow(0, 2);
        x.advance(1);
        CHECK.due("2 and 2 are taken at two ticks", x.isPolled(), false);
    }

    /** "from the next tick on" */
    private static void polledFromTheNextTickOn() {
        FilmPlayer x = new FilmPlayer();
        x.set(32, 10, 50, 10);
        x.arriveRow(0, 20);
        CHECK.due("ahead of the tick", x.isPolled(), false);
        x.advance(1);
        CHECK.due("at that tick all are taken, not 6", x.waiting(), 0);
        CHECK.due("behind the tick", x.isPolled(), true);
        x.arriveRow(20, 20);
        x.advance(1);
        CHECK.due("at the next tick 6 are taken, not all", x.waiting(), 14);
    }

    /** "If it is POLLED: the first ones are taken, 6 at most" */
    private static void sixAtMost() {
        for (int many = 1; many <= 32; many++) {
            FilmPlayer x = Players.polled();
            for (int k = 0; k < many; k++) {
                x.arrive(100 + k);
            }
            x.advance(1);
            CHECK.due("polled, " + many + " wait", x.waiting(), Math.max(0, many - 6));
            CHECK.due("polled, the first of " + many, x.has(100), true);
            CHECK.due("polled, the 6th of " + many, x.has(105), many >= 6);
            CHECK.due("polled, the 7th of " + many, x.has(106), false);
            CHECK.due("polled still with " + many, x.isPolled(), true);
            x.advance(1);
            CHECK.due("polled, the 7th of " + many + ", a tick later", x.has(106), many >= 7);
            CHECK.due("polled, the 12th of " + many, x.has(111), many >= 12);
            CHECK.due("polled, the 13th of " + many, x.has(112), false);
        }
    }

    private static void polledNeedsNoJoin() {
        FilmPlayer x = Players.polled();
        x.arrive(7);
        x.advance(1);
        CHECK.due("below join and patience", x.has(7), true);
        x.arriveRow(10, 20);
        x.advance(1);
        CHECK.due("below the load", x.isPolled(), true);
        x.set(32, 1, 1, 1);
        x.advance(1);
        CHECK.due("join and patience take no more than 6", x.waiting(), 8);
    }

    /** "if none waits ahead of that": not if one waits, and is taken. */
    private static void staysPolledWhileOneWaits() {
        for (int many = 1; many <= 7; many++) {
            FilmPlayer x = Players.polled();
            x.arriveRow(10, many);
            x.advance(1);
            CHECK.due(many + " waited", x.isPolled(), true);
            x.advance(1);
            CHECK.due(many + " waited two ticks ago", x.isPolled(), many == 7);
            x.advance(1);
            CHECK.due(many + " waited three ticks ago", x.isPolled(), false);
        }
    }

    /** "it is JOINED then, and takes none" */
    private static void joinedWhenNoneWaits() {
        FilmPlayer x = Players.polled();
        CHECK.due("polled, none waits", x.isPolled(), true);
        x.advance(1);
        CHECK.due("a tick later", x.isPolled(), false);
        x.advance(1);
        CHECK.due("two ticks later", x.isPolled(), false);
        CHECK.due("has 0 alone", x.has(1), false);
    }

    private static void joinedThenTakesByTheJoin() {
        FilmPlayer x = Players.polled();
        x.set(32, 2, 50, 32);
        x.advance(1);
        x.arrive(5);
        x.advance(1);
        CHECK.due("joined: one below the join waits", x.waiting(), 1);
        x.arriveRow(6, 9);
        x.advance(1);
        CHECK.due("joined: all are taken, not 6", x.waiting(), 0);
    }

    /** "A packet that is taken is had from then on." */
    private static void hadFromThenOn() {
        FilmPlayer x = new FilmPlayer();
        x.set(2, 2, 50, 32);
        x.arrive(5);
        CHECK.due("it waits", x.has(5), false);
        x.advance(1);
        CHECK.due("it waits, and is not taken", x.has(5), false);
        x.arrive(6);
        CHECK.due("both wait", x.has(5) || x.has(6), false);
        x.advance(1);
        CHECK.due("both are taken", x.has(5) && x.has(6), true);
        x.arrive(5);
        CHECK.due("it comes again", x.has(5), true);
        x.reset();
        CHECK.due("and is lost", x.has(5), true);
        Players.goTo(x, 2000);
        CHECK.due("2000 ticks later", x.has(5) && x.has(6), true);
        CHECK.due("no other one is had", x.has(4) || x.has(7), false);
    }
}
