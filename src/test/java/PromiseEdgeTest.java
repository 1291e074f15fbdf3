/** Promises 1 to 23, by their numbers: the least and the greatest arguments, and each Returns line. */
public final class PromiseEdgeTest {
    private static final Check CHECK = new Check("PromiseEdgeTest");
    private static final int NONE = FilmPlayer.NONE;

    public static void main(String[] args) {
        newObjectSize();
        newObjectJoin();
        newObjectPatience();
        newObjectLoad();
        newObjectHasNothing();
        setLeast();
        setGreatest();
        setKeepsWhatWaits();
        setTouchesNothingElse();
        setEachAlone();
        arriveLeastAndGreatest();
        arriveAgain();
        arriveAnswers();
        arriveRowLeastAndGreatest();
        arriveRowUpToTheLastPacket();
        arriveRowNumbersRise();
        arriveRowAnswersTheLost();
        advanceLeastAndGreatest();
        advanceToTheLastTick();
        resetOfNone();
        resetOfAll();
        resetJoins();
        resetTouchesNothingElse();
        waitingAnswers();
        lostInTheRingAndByResets();
        isPolledBothWays();
        hasLeastAndGreatest();
        askedAtFirstAndLast();
        askedUpToAll();
        kindOfLeastAndGreatest();
        needLeastAndGreatest();
        isWholeLeastAndGreatest();
        fateLeastAndGreatest();
        nextFromFirstToNone();
        turnIsNoneAheadAndBehind();
        fillFromNoneToAll();
        shownFromNoneToAll();
        couldBeOfThoseThatHadTurns();
        couldBeNeedsOfNeeds();
        couldBeWithLatePackets();
        gapIsNothingWithoutATurn();
        gapBelowAndAbove();
        CHECK.end();
    }

    /** A film of 100 whole frames, had from the tick 10 on; it began at the tick 0. */
    private static FilmPlayer wholeFilm() {
        FilmPlayer x = Players.quick();
        for (int row = 0; row < 10; row++) {
            x.arriveRow(30 * row, 30);
            x.advance(1);
        }
        return x;
    }

    // ---- promise 1

    /** "the ring has the size 16" */
    private static void newObjectSize() {
        FilmPlayer x = new FilmPlayer();
        for (int k = 1; k <= 16; k++) {
            CHECK.due("new: arrive", x.arrive(k), k);
        }
        CHECK.due("new: arrive behind 16", x.arrive(17), NONE);
    }

    /** "the join is 4" */
    private static void newObjectJoin() {
        for (int many = 3; many <= 5; many++) {
            FilmPlayer x = new FilmPlayer();
            x.arriveRow(0, many);
            x.advance(1);
            CHECK.due("new, " + many + " came: waiting", x.waiting(), many == 3 ? 3 : 0);
        }
    }

    /** "the patience 3" */
    private static void newObjectPatience() {
        FilmPlayer x = new FilmPlayer();
        x.arrive(0);
        for (int tick = 1; tick <= 3; tick++) {
            x.advance(1);
            CHECK.due("new, at the tick " + tick + ": waiting", x.waiting(), 1);
        }
        x.advance(1);
        CHECK.due("new, at the tick 4: waiting", x.waiting(), 0);
    }

    /** "the load 8" */
    private static void newObjectLoad() {
        for (int many = 7; many <= 9; many++) {
            FilmPlayer x = new FilmPlayer();
            x.arriveRow(0, many);
            x.advance(1);
            CHECK.due("new, " + many + " were taken: isPolled", x.isPolled(), many > 7);
        }
    }

    /** "The tick 0" and "nothing has come" */
    private static void newObjectHasNothing() {
        FilmPlayer x = new FilmPlayer();
        CHECK.due("new: tick", x.tick(), 0);
        CHECK.due("new: waiting", x.waiting(), 0);
        CHECK.due("new: lost", x.lost(), 0);
        CHECK.due("new: isPolled", x.isPolled(), false);
        CHECK.due("new: asked", x.asked(), 0);
        CHECK.due("new: next", x.next(), 0);
        CHECK.due("new: turn", x.turn(), NONE);
        CHECK.due("new: fill", x.fill(), 0);
        CHECK.due("new: shown", x.shown(), 0);
        CHECK.due("new: couldBe", x.couldBe(), 0);
        CHECK.due("new: gap", x.gap(), 0);
        for (int packet = 0; packet < 300; packet++) {
            CHECK.due("new: has " + packet, x.has(packet), false);
        }
    }

    // ---- promise 2

    /** Each of the four at 1. */
    private static void setLeast() {
        FilmPlayer x = new FilmPlayer();
        x.set(1, 32, 1, 32);
        CHECK.due("size 1: arrive", x.arrive(0), 1);
        CHECK.due("size 1: arrive", x.arrive(1), NONE);
        x.advance(1);
        CHECK.due("patience 1, 0 ticks ago: waiting", x.waiting(), 1);
        x.advance(1);
        CHECK.due("patience 1, 1 tick ago: waiting", x.waiting(), 0);
        x.set(1, 1, 50, 1);
        x.arrive(1);
        x.advance(1);
        CHECK.due("join 1: waiting", x.waiting(), 0);
        CHECK.due("load 1: isPolled", x.isPolled(), true);
    }

    /** Size, join and load at 32, the patience at 50. */
    private static void setGreatest() {
        FilmPlayer x = new FilmPlayer();
        x.set(32, 32, 50, 32);
        x.arriveRow(0, 30);
        CHECK.due("size 32: arrive", x.arrive(30), 31);
        x.advance(50);
        CHECK.due("join 32, patience 50: waiting", x.waiting(), 31);
        CHECK.due("size 32: arrive", x.arrive(31), 32);
        CHECK.due("size 32: arrive", x.arrive(32), NONE);
        x.advance(1);
        CHECK.due("join 32: waiting", x.waiting(), 0);
        CHECK.due("load 32: isPolled", x.isPolled(), true);
        x = new FilmPlayer();
        x.set(32, 32, 50, 32);
        x.arriveRow(0, 30);
        x.arrive(30);
        x.advance(51);
        CHECK.due("patience 50: waiting", x.waiting(), 0);
        CHECK.due("load 32, 31 were taken: isPolled", x.isPolled(), false);
    }

    /** "what waits stays, also if it is more than the size" */
    private static void setKeepsWhatWaits() {
        FilmPlayer x = new FilmPlayer();
        x.set(32, 32, 50, 32);
        x.arriveRow(100, 30);
        x.arriveRow(130, 2);
        for (int size = 32; size >= 1; size--) {
            x.set(size, 32, 50, 32);
            CHECK.due("size " + size + ": waiting", x.waiting(), 32);
        }
        CHECK.due("size 1: lost", x.lost(), 0);
        x.advance(1);
        for (int packet = 100; packet < 132; packet++) {
            CHECK.due("size 1: has " + packet, x.has(packet), true);
        }
        x = new FilmPlayer();
        x.set(10, 32, 50, 32);
        x.arriveRow(0, 10);
        x.set(20, 32, 50, 32);
        CHECK.due("size 20: waiting", x.waiting(), 10);
        x.set(3, 32, 50, 32);
        CHECK.due("size 3: reset", x.reset(), 10);
    }

    private static void setTouchesNothingElse() {
        FilmPlayer x = Players.begun(20);
        x.arriveRow(25, 9);
        String before = Picture.of(x);
        x.set(1, 1, 1, 1);
        CHECK.due("behind set", Picture.of(x), before);
        x.set(32, 32, 50, 32);
        CHECK.due("behind set", Picture.of(x), before);
        x = Players.polled();
        x.set(5, 6, 7, 8);
        CHECK.due("set leaves it polled", x.isPolled(), true);
    }

    /** No one of the four stands for another. */
    private static void setEachAlone() {
        FilmPlayer x = new FilmPlayer();
        x.set(7, 5, 2, 6);
        CHECK.due("size 7: lost of 9", x.arriveRow(0, 9), 2);
        x.reset();
        x.arriveRow(0, 4);
        x.advance(1);
        CHECK.due("join 5, 4 came: waiting", x.waiting(), 4);
        x.arrive(4);
        x.advance(1);
        CHECK.due("join 5, 5 came: waiting", x.waiting(), 0);
        CHECK.due("load 6, 5 were taken: isPolled", x.isPolled(), false);
        x.arrive(5);
        x.advance(2);
        CHECK.due("patience 2, 1 tick ago: waiting", x.waiting(), 1);
        x.advance(1);
        CHECK.due("patience 2, 2 ticks ago: waiting", x.waiting(), 0);
        x.arriveRow(6, 6);
        x.advance(1);
        CHECK.due("load 6, 6 were taken: isPolled", x.isPolled(), true);
    }

    // ---- promises 3 and 4

    private static void arriveLeastAndGreatest() {
        FilmPlayer x = Players.quick();
        CHECK.due("arrive 0", x.arrive(0), 1);
        CHECK.due("arrive 299", x.arrive(299), 2);
        x.advance(1);
        CHECK.due("has 0", x.has(0), true);
        CHECK.due("has 299", x.has(299), true);
        CHECK.due("asked", x.asked(), 298);
    }

    /** "for the first time or again" */
    private static void arriveAgain() {
        FilmPlayer x = Players.quick();
        x.set(4, 32, 50, 32);
        CHECK.due("arrive 8", x.arrive(8), 1);
        CHECK.due("arrive 8 while it waits", x.arrive(8), 2);
        CHECK.due("arrive 8 while it waits twice", x.arrive(8), 3);
        x.set(4, 1, 50, 32);
        x.advance(1);
        CHECK.due("arrive 8 when it is had", x.arrive(8), 1);
        x.advance(1);
        CHECK.due("has 8", x.has(8), true);
        CHECK.due("waiting", x.waiting(), 0);
        CHECK.due("lost", x.lost(), 0);
    }

    /** "Returns how many wait then; NONE if it is lost." */
    private static void arriveAnswers() {
        FilmPlayer x = new FilmPlayer();
        x.set(2, 2, 50, 32);
        CHECK.due("the first", x.arrive(3), 1);
        CHECK.due("the second", x.arrive(4), 2);
        CHECK.due("the third", x.arrive(5), NONE);
        CHECK.due("the fourth", x.arrive(6), NONE);
        x.advance(1);
        CHECK.due("behind a tick", x.arrive(7), 1);
        CHECK.due("a lost one is not had", x.has(5), false);
    }

    /** first: 0 to 299; many: 1 to 30. */
    private static void arriveRowLeastAndGreatest() {
        FilmPlayer x = Players.quick();
        CHECK.due("arriveRow(0, 1)", x.arriveRow(0, 1), 0);
        CHECK.due("waiting", x.waiting(), 1);
        CHECK.due("arriveRow(0, 30)", x.arriveRow(0, 30), 0);
        CHECK.due("waiting", x.waiting(), 31);
        x.reset();
        CHECK.due("arriveRow(299, 1)", x.arriveRow(299, 1), 0);
        CHECK.due("arriveRow(270, 30)", x.arriveRow(270, 30), 0);
        CHECK.due("waiting", x.waiting(), 31);
        x.advance(1);
        CHECK.due("has 269", x.has(269), false);
        CHECK.due("has 270", x.has(270), true);
        CHECK.due("has 299", x.has(299), true);
    }

    /** "or not so many from it on": for each many, the greatest first, and the one behind it. */
    private static void arriveRowUpToTheLastPacket() {
        for (int many = 1; many <= 30; many++) {
            FilmPlayer x = Players.quick();
            int first = 300 - many;
            int row = many;
            CHECK.dueThrow("arriveRow(" + (first + 1) + ", " + many + ")", IndexOutOfBoundsException.class,
                () -> x.arriveRow(first + 1, row));
            CHECK.due("waiting", x.waiting(), 0);
            CHECK.due("arriveRow(" + first + ", " + many + ")", x.arriveRow(first, many), 0);
            CHECK.due("waiting", x.waiting(), many);
        }
    }

    /** "each with a number that is 1 more than that of the one before" */
    private static void arriveRowNumbersRise() {
        FilmPlayer x = Players.polled();
        x.arriveRow(40, 13);
        for (int tick = 0; tick < 3; tick++) {
            x.advance(1);
            for (int packet = 40; packet < 53; packet++) {
                CHECK.due("tick " + tick + ": has " + packet, x.has(packet), packet < 46 + 6 * tick);
            }
        }
        CHECK.due("has 39", x.has(39), false);
        CHECK.due("has 53", x.has(53), false);
    }

    /** "Returns how many of them are lost." */
    private static void arriveRowAnswersTheLost() {
        for (int size = 1; size <= 32; size++) {
            FilmPlayer x = new FilmPlayer();
            x.set(size, 32, 50, 32);
            int due = Math.max(0, 30 - size);
            CHECK.due("size " + size + ": lost of 30", x.arriveRow(10, 30), due);
            CHECK.due("size " + size + ": lost", x.lost(), due);
            CHECK.due("size " + size + ": waiting", x.waiting(), Math.min(30, size));
            int again = size < 30 ? 30 : 30 - (size - 30);
            CHECK.due("size " + size + ": lost of 30 more", x.arriveRow(10, 30), again);
            CHECK.due("size " + size + ": lost in all", x.lost(), due + again);
            x.set(size, 1, 50, 32);
            x.advance(1);
            CHECK.due("size " + size + ": the last that has room", x.has(9 + Math.min(30, size)), true);
            CHECK.due("size " + size + ": the first that has none", x.has(10 + Math.min(30, size)), false);
        }
    }

    // ---- promises 5 to 7

    private static void advanceLeastAndGreatest() {
        FilmPlayer x = new FilmPlayer();
        CHECK.due("advance 1", x.advance(1), 1);
        CHECK.due("tick", x.tick(), 1);
        CHECK.due("advance 100", x.advance(100), 101);
        CHECK.due("tick", x.tick(), 101);
    }

    /** "if the tick would be above 20000" */
    private static void advanceToTheLastTick() {
        int[] left = {1, 2, 50, 99};
        for (int ticks : left) {
            FilmPlayer x = new FilmPlayer();
            Players.goTo(x, 20000 - ticks);
            x.arrive(5);
            CHECK.dueThrow(ticks + " left, advance 1 more", IllegalStateException.class, () -> x.advance(ticks + 1));
            CHECK.due(ticks + " left: tick", x.tick(), 20000 - ticks);
            CHECK.due(ticks + " left: waiting", x.waiting(), 1);
            CHECK.due(ticks + " left, advance as many", x.advance(ticks), 20000);
            CHECK.dueThrow("none left, advance 1", IllegalStateException.class, () -> x.advance(1));
            CHECK.dueThrow("none left, advance 100", IllegalStateException.class, () -> x.advance(100));
            CHECK.due("none left: tick", x.tick(), 20000);
        }
        FilmPlayer x = new FilmPlayer();
        Players.goTo(x, 19900);
        CHECK.due("100 left, advance 100", x.advance(100), 20000);
    }

    private static void resetOfNone() {
        FilmPlayer x = new FilmPlayer();
        CHECK.due("none waits: reset", x.reset(), 0);
        CHECK.due("none waits: lost", x.lost(), 0);
        x.arrive(0);
        x.advance(4);
        CHECK.due("it was taken: reset", x.reset(), 0);
        CHECK.due("it was taken: lost", x.lost(), 0);
        CHECK.due("it was taken: has 0", x.has(0), true);
    }

    /** "what waits in the ring is lost" */
    private static void resetOfAll() {
        for (int many = 1; many <= 32; many++) {
            FilmPlayer x = new FilmPlayer();
            x.set(32, 1, 50, 32);
            for (int k = 0; k < many; k++) {
                x.arrive(k);
            }
            CHECK.due(many + " wait: reset", x.reset(), many);
            CHECK.due(many + " wait: waiting", x.waiting(), 0);
            CHECK.due(many + " wait: lost", x.lost(), many);
            x.advance(1);
            CHECK.due(many + " wait: has 0", x.has(0), false);
            CHECK.due(many + " wait: has the last", x.has(many - 1), false);
            CHECK.due("reset again", x.reset(), 0);
            CHECK.due("lost", x.lost(), many);
        }
    }

    /** "the driver is JOINED" */
    private static void resetJoins() {
        FilmPlayer x = Players.polled();
        x.reset();
        CHECK.due("polled, none waits: isPolled", x.isPolled(), false);
        x.arriveRow(10, 9);
        x.advance(1);
        CHECK.due("it takes by the join then", x.waiting(), 9);
        x = Players.polled();
        x.arriveRow(10, 20);
        CHECK.due("polled, 20 wait: reset", x.reset(), 20);
        CHECK.due("polled, 20 wait: isPolled", x.isPolled(), false);
        x.reset();
        CHECK.due("joined: isPolled", x.isPolled(), false);
    }

    private static void resetTouchesNothingElse() {
        FilmPlayer x = Players.begun(20);
        x.arrive(40);
        x.advance(12);
        String before = Picture.of(x);
        CHECK.due("reset", x.reset(), 0);
        CHECK.due("behind reset", Picture.of(x), before);
        x.set(3, 2, 50, 32);
        CHECK.due("size 3: lost of 5", x.arriveRow(0, 5), 2);
        x.reset();
        CHECK.due("the size stays: lost of 5", x.arriveRow(0, 5), 2);
        x.advance(1);
        CHECK.due("the join stays: waiting", x.waiting(), 0);
        CHECK.due("the turn stays: turn", x.turn(), 20);
        Players.goTo(x, 21);
        CHECK.due("the turn stays: next", x.next(), 3);
    }

    // ---- promises 8 to 13

    private static void waitingAnswers() {
        FilmPlayer x = Players.polled();
        for (int many = 0; many < 32; many++) {
            CHECK.due("waiting", x.waiting(), many);
            x.arrive(many);
        }
        CHECK.due("waiting", x.waiting(), 32);
        x.arrive(50);
        CHECK.due("one was lost: waiting", x.waiting(), 32);
        int[] due = {26, 20, 14, 8, 2, 0, 0};
        for (int many : due) {
            x.advance(1);
            CHECK.due("polled: waiting", x.waiting(), many);
        }
    }

    /** "how many packets were lost, in the ring and by resets" */
    private static void lostInTheRingAndByResets() {
        FilmPlayer x = new FilmPlayer();
        x.set(2, 32, 50, 32);
        x.arriveRow(0, 5);
        CHECK.due("in the ring", x.lost(), 3);
        x.arrive(5);
        CHECK.due("in the ring, one by one", x.lost(), 4);
        x.reset();
        CHECK.due("by a reset", x.lost(), 6);
        x.arrive(0);
        x.advance(51);
        x.arrive(0);
        x.reset();
        CHECK.due("one that is had is lost too, when it came again", x.lost(), 7);
        x = new FilmPlayer();
        x.set(1, 32, 50, 32);
        x.arrive(0);
        for (int k = 1; k <= 50; k++) {
            CHECK.due("arriveRow", x.arriveRow(0, 30), 30);
            CHECK.due("lost", x.lost(), 30 * k);
        }
    }

    private static void isPolledBothWays() {
        FilmPlayer x = Players.polled();
        CHECK.due("isPolled", x.isPolled(), true);
        x.advance(1);
        CHECK.due("isPolled", x.isPolled(), false);
        x.set(32, 1, 50, 1);
        x.arrive(1);
        CHECK.due("isPolled", x.isPolled(), false);
        x.advance(1);
        CHECK.due("isPolled", x.isPolled(), true);
    }

    private static void hasLeastAndGreatest() {
        FilmPlayer x = Players.quick();
        CHECK.due("has 0", x.has(0), false);
        CHECK.due("has 299", x.has(299), false);
        x.arrive(299);
        x.advance(1);
        CHECK.due("has 0", x.has(0), false);
        CHECK.due("has 298", x.has(298), false);
        CHECK.due("has 299", x.has(299), true);
        x.arrive(0);
        x.advance(1);
        CHECK.due("has 0", x.has(0), true);
        CHECK.due("has 1", x.has(1), false);
    }

    /** "from 0, in the order in which they were asked for" */
    private static void askedAtFirstAndLast() {
        FilmPlayer x = Players.quick();
        CHECK.dueThrow("none: askedAt 0", IndexOutOfBoundsException.class, () -> x.askedAt(0));
        x.arrive(1);
        x.advance(1);
        CHECK.due("one: askedAt 0", x.askedAt(0), 0);
        CHECK.dueThrow("one: askedAt 1", IndexOutOfBoundsException.class, () -> x.askedAt(1));
        CHECK.dueThrow("one: askedAt -1", IndexOutOfBoundsException.class, () -> x.askedAt(-1));
        x.arrive(4);
        x.advance(1);
        CHECK.due("three: askedAt 0", x.askedAt(0), 0);
        CHECK.due("three: askedAt 1", x.askedAt(1), 2);
        CHECK.due("three: askedAt 2", x.askedAt(2), 3);
        CHECK.dueThrow("three: askedAt 3", IndexOutOfBoundsException.class, () -> x.askedAt(3));
    }

    private static void askedUpToAll() {
        FilmPlayer x = Players.quick();
        CHECK.due("asked", x.asked(), 0);
        x.arrive(299);
        CHECK.due("asked", x.asked(), 0);
        x.advance(1);
        CHECK.due("asked", x.asked(), 299);
        CHECK.due("askedAt 0", x.askedAt(0), 0);
        CHECK.due("askedAt 298", x.askedAt(298), 298);
        CHECK.dueThrow("askedAt 299", IndexOutOfBoundsException.class, () -> x.askedAt(299));
        x.arriveRow(0, 30);
        x.advance(100);
        CHECK.due("asked", x.asked(), 299);
    }

    // ---- promises 14 to 17

    private static void kindOfLeastAndGreatest() {
        FilmPlayer x = new FilmPlayer();
        CHECK.due("kindOf 0", x.kindOf(0), FilmPlayer.KEY);
        CHECK.due("kindOf 1", x.kindOf(1), FilmPlayer.BETWEEN);
        CHECK.due("kindOf 98", x.kindOf(98), FilmPlayer.BETWEEN);
        CHECK.due("kindOf 99", x.kindOf(99), FilmPlayer.STEP);
    }

    /** "NONE if it needs none there" */
    private static void needLeastAndGreatest() {
        FilmPlayer x = new FilmPlayer();
        CHECK.due("need(0, false)", x.need(0, false), NONE);
        CHECK.due("need(0, true)", x.need(0, true), NONE);
        CHECK.due("need(1, false)", x.need(1, false), 0);
        CHECK.due("need(1, true)", x.need(1, true), 3);
        CHECK.due("need(3, false)", x.need(3, false), 0);
        CHECK.due("need(3, true)", x.need(3, true), NONE);
        CHECK.due("need(98, false)", x.need(98, false), 96);
        CHECK.due("need(98, true)", x.need(98, true), 99);
        CHECK.due("need(99, false)", x.need(99, false), 96);
        CHECK.due("need(99, true)", x.need(99, true), NONE);
    }

    private static void isWholeLeastAndGreatest() {
        FilmPlayer x = Players.quick();
        CHECK.due("isWhole 0", x.isWhole(0), false);
        CHECK.due("isWhole 99", x.isWhole(99), false);
        x.arriveRow(0, 3);
        x.arriveRow(297, 3);
        x.advance(1);
        CHECK.due("isWhole 0", x.isWhole(0), true);
        CHECK.due("isWhole 1", x.isWhole(1), false);
        CHECK.due("isWhole 98", x.isWhole(98), false);
        CHECK.due("isWhole 99", x.isWhole(99), true);
    }

    /** "Returns TO_COME, SHOWN, LACKING or NEEDY." */
    private static void fateLeastAndGreatest() {
        FilmPlayer x = Players.quick();
        CHECK.due("fate 0", x.fate(0), FilmPlayer.TO_COME);
        x = Players.begun(9);
        CHECK.due("fate 0", x.fate(0), FilmPlayer.SHOWN);
        CHECK.due("fate 1", x.fate(1), FilmPlayer.TO_COME);
        CHECK.due("fate 99", x.fate(99), FilmPlayer.TO_COME);
        Players.goTo(x, 1088);
        CHECK.due("fate 1", x.fate(1), FilmPlayer.NEEDY);
        CHECK.due("fate 98", x.fate(98), FilmPlayer.LACKING);
        CHECK.due("fate 99", x.fate(99), FilmPlayer.TO_COME);
        x.advance(1);
        CHECK.due("fate 99", x.fate(99), FilmPlayer.LACKING);
    }

    // ---- promises 18 to 23

    /** "NONE behind the last one" */
    private static void nextFromFirstToNone() {
        FilmPlayer x = Players.begun(9);
        CHECK.due("next", x.next(), 1);
        for (int frame = 3; frame < 100; frame++) {
            Players.goTo(x, 21 + 11 * (frame - 2));
            CHECK.due("next", x.next(), frame);
        }
        x.advance(1);
        CHECK.due("behind the last one: next", x.next(), NONE);
        x.advance(100);
        CHECK.due("behind the last one: next", x.next(), NONE);
    }

    /** "NONE if the film has not begun, or has ended" */
    private static void turnIsNoneAheadAndBehind() {
        FilmPlayer x = Players.quick();
        CHECK.due("not begun: turn", x.turn(), NONE);
        x.arriveRow(0, 9);
        CHECK.due("not begun, all wait: turn", x.turn(), NONE);
        x.advance(1);
        CHECK.due("begun: turn", x.turn(), 10);
        Players.goTo(x, 1088);
        CHECK.due("at the last one: turn", x.turn(), 1088);
        x.advance(1);
        CHECK.due("ended: turn", x.turn(), NONE);
        x.advance(100);
        CHECK.due("ended: turn", x.turn(), NONE);
    }

    private static void fillFromNoneToAll() {
        FilmPlayer x = Players.quick();
        // the frames 1 to 99, and then 0: the film begins with all of them whole
        for (int row = 0; row < 10; row++) {
            x.arriveRow(row == 0 ? 3 : 30 * row, row == 0 ? 27 : 30);
            x.advance(1);
            CHECK.due("without the frame 0: fill", x.fill(), 0);
        }
        x.arriveRow(0, 3);
        CHECK.due("the frame 0 waits: fill", x.fill(), 0);
        x.advance(1);
        CHECK.due("all are whole: fill", x.fill(), 99);
        CHECK.due("all are whole: turn", x.turn(), 19);
        Players.goTo(x, 1010);
        CHECK.due("ended: fill", x.fill(), 0);
        CHECK.due("ended: shown", x.shown(), 100);
    }

    private static void shownFromNoneToAll() {
        FilmPlayer x = wholeFilm();
        CHECK.due("shown at the tick 10", x.shown(), 2);
        for (int frame = 2; frame < 100; frame++) {
            CHECK.due("next", x.next(), frame);
            CHECK.due("shown", x.shown(), frame);
            Players.goTo(x, x.turn() + 1);
        }
        CHECK.due("shown", x.shown(), 100);
        x = Players.withFrames("WWWW-WW");
        Players.goTo(x, 74);
        CHECK.due("with one dropped: next", x.next(), 7);
        CHECK.due("with one dropped: shown", x.shown(), 6);
    }

    /** "of those that have had their turns" */
    private static void couldBeOfThoseThatHadTurns() {
        FilmPlayer x = wholeFilm();
        for (int frame = 2; frame < 100; frame++) {
            CHECK.due("next", x.next(), frame);
            CHECK.due("couldBe", x.couldBe(), frame);
            Players.goTo(x, x.turn() + 1);
        }
        CHECK.due("couldBe", x.couldBe(), 100);
        x = Players.quick();
        x.arriveRow(3, 30);
        x.advance(1);
        CHECK.due("whole, and not begun: couldBe", x.couldBe(), 0);
    }

    /** "those that are whole, whose needs are whole, and the needs of these, and so on" */
    private static void couldBeNeedsOfNeeds() {
        String[] frames = {"WWWW--W", "WWW-WWW", "WWWWWW-", "WWWWWW-WWW", "WWW--WW", "WWW---WWWW", "WWW"};
        int[] due = {5, 2, 4, 4, 2, 5, 1};
        for (int k = 0; k < frames.length; k++) {
            FilmPlayer x = Players.withFrames(frames[k]);
            Players.goTo(x, 11 * frames[k].length());
            CHECK.due(frames[k] + ": couldBe", x.couldBe(), due[k]);
        }
        // 10 and 11 need 9 before them, and that needs 6: 9 alone does not serve
        FilmPlayer x = Players.begun(9);
        Players.goTo(x, 129);
        x.arriveRow(27, 12);
        x.advance(1);
        CHECK.due("next", x.next(), 12);
        CHECK.due("9 to 12 are whole, 6 is not: couldBe", x.couldBe(), 1);
        // the turn of 12 is at the tick 131
        x.arriveRow(18, 3);
        CHECK.due("6 waits: couldBe", x.couldBe(), 1);
        x.advance(2);
        CHECK.due("next", x.next(), 13);
        CHECK.due("6 is whole too, 0 6 9 10 11 12: couldBe", x.couldBe(), 6);
        // 7 and 8 need 9 behind them, 4 and 5 need 6 behind them and 3 before them
        x.arriveRow(12, 6);
        x.arriveRow(21, 6);
        x.advance(1);
        CHECK.due("all but 3: couldBe", x.couldBe(), 8);
        x.arriveRow(9, 3);
        x.advance(1);
        CHECK.due("all: couldBe", x.couldBe(), x.next());
    }

    /** "if all packets were had that are had by now" */
    private static void couldBeWithLatePackets() {
        FilmPlayer x = Players.begun(9);
        Players.goTo(x, 33);
        CHECK.due("couldBe", x.couldBe(), 1);
        x.arriveRow(9, 2);
        x.advance(1);
        CHECK.due("a packet short: couldBe", x.couldBe(), 1);
        x.arrive(11);
        CHECK.due("it waits: couldBe", x.couldBe(), 1);
        x.advance(1);
        CHECK.due("it is had: couldBe", x.couldBe(), 4);
        CHECK.due("shown", x.shown(), 1);
    }

    /** "0 if there is no next turn" */
    private static void gapIsNothingWithoutATurn() {
        FilmPlayer x = Players.quick();
        x.advance(50);
        CHECK.due("not begun: gap", x.gap(), 0);
        x = Players.begun(9);
        Players.goTo(x, 1088);
        CHECK.due("at the last one: gap", x.gap(), 98);
        x.advance(1);
        CHECK.due("ended: gap", x.gap(), 0);
    }

    /** "the tick of the next turn, less that at which the film began, less 10 times the next frame" */
    private static void gapBelowAndAbove() {
        int[] ticks = {0, 33};
        for (int tick : ticks) {
            FilmPlayer x = Players.quick();
            Players.goTo(x, tick);
            x.arriveRow(0, 30);
            x.advance(1);
            // the paces are 9 four times, 10 four times, and 11 from then on
            int[] due = {-1, -2, -3, -4, -4, -4, -4, -4, -3, -2, -1, 0, 1, 2};
            for (int k = 0; k < due.length; k++) {
                CHECK.due("begun at " + tick + ", next " + x.next() + ": gap", x.gap(), due[k]);
                Players.goTo(x, x.turn() + 1);
            }
        }
    }
}
