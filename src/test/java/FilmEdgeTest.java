import java.util.Random;

/** The sentences of the "Terms" on frames, and of their step 3 and 4, each at its edges. */
public final class FilmEdgeTest {
    private static final Check CHECK = new Check("FilmEdgeTest");

    public static void main(String[] args) {
        noneIsShownWhoseNeedsWereNot();
        packetsOfAFrame();
        wholeWithAllPackets();
        wholeWhenHad();
        keysByTheirNumbers();
        stepsByTheirNumbers();
        betweensByTheirNumbers();
        keyNeedsNothing();
        stepNeedsTheOneThreeBefore();
        betweenNeedsTheLatestBefore();
        betweenNeedsTheNextBehind();
        beginsWithTheFramesZeroToTwo();
        beginsWithoutOneOfThem();
        firstTurnAtThisTick();
        beginsOnce();
        beginsAtTheLastTick();
        nextTurnAtItsTickAlone();
        oneTurnATick();
        keyIsShownIfWhole();
        lackingIfNotWhole();
        lackingAheadOfNeedy();
        needyWithoutTheOneBefore();
        beforeMustHaveBeenShown();
        needyWithoutTheOneBehind();
        behindMayBeShownLater();
        behindMustBeWholeByThatTick();
        fateStays();
        paceAtItsEdges();
        paceByThen();
        fillOneBehindTheOther();
        fillFromTheNextOneOn();
        noTurnsBehindTheLast();
        ticksGoOneByOne();
        CHECK.end();
    }

    private static void dueFates(String frames, String due) {
        FilmPlayer x = Players.withFrames(frames);
        Players.goTo(x, 11 * due.length());
        CHECK.due("fates of " + frames, Players.fates(x, due.length()), due);
    }

    /** "No frame is shown whose needs were not." */
    private static void noneIsShownWhoseNeedsWereNot() {
        int shown = 0;
        int dropped = 0;
        for (int run = 0; run < 40; run++) {
            FilmPlayer x = brokenFilm(new Random(run));
            for (int frame = 0; frame < 100; frame++) {
                if (x.fate(frame) != FilmPlayer.SHOWN) {
                    dropped++;
                    continue;
                }
                shown++;
                for (int side = 0; side < 2; side++) {
                    int need = x.need(frame, side == 1);
                    CHECK.due("run " + run + ", " + need + ", which " + frame + " needs",
                        need == FilmPlayer.NONE ? FilmPlayer.SHOWN : x.fate(need), FilmPlayer.SHOWN);
                }
            }
        }
        CHECK.due("enough were shown", shown > 400, true);
        CHECK.due("enough were dropped", dropped > 400, true);
    }

    /** A film to its end, of which some frames lack, and some come late. */
    private static FilmPlayer brokenFilm(Random random) {
        FilmPlayer x = Players.begun(9);
        for (int frame = 3; frame < 100; frame++) {
            if (random.nextInt(8) > 0) {
                x.arriveRow(3 * frame, 3);
            }
            x.advance(5 + random.nextInt(8));
        }
        Players.goTo(x, 1200);
        CHECK.due("the film ended", x.next(), FilmPlayer.NONE);
        return x;
    }

    /** "the frame f, 0 to 99, has the packets 3 * f, 3 * f + 1 and 3 * f + 2" */
    private static void packetsOfAFrame() {
        for (int frame = 0; frame < 100; frame++) {
            FilmPlayer x = Players.quick();
            x.arriveRow(3 * frame, 3);
            x.advance(1);
            for (int other = 0; other < 100; other++) {
                CHECK.due("packets of " + frame + ": isWhole " + other, x.isWhole(other), other == frame);
            }
        }
    }

    /** "A frame is whole if all its packets are had." */
    private static void wholeWithAllPackets() {
        int[] frames = {0, 1, 50, 98, 99};
        for (int frame : frames) {
            for (int packets = 0; packets < 8; packets++) {
                FilmPlayer x = Players.quick();
                for (int k = 0; k < 3; k++) {
                    if ((packets >> k & 1) != 0) {
                        x.arrive(3 * frame + k);
                    }
                }
                x.advance(1);
                CHECK.due("packets " + packets + ": isWhole " + frame, x.isWhole(frame), packets == 7);
            }
        }
    }

    private static void wholeWhenHad() {
        FilmPlayer x = new FilmPlayer();
        x.arriveRow(0, 3);
        x.advance(3);
        CHECK.due("its packets wait", x.isWhole(0), false);
        x.advance(1);
        CHECK.due("its packets are taken", x.isWhole(0), true);
        x.arriveRow(3, 3);
        x.reset();
        x.advance(5);
        CHECK.due("its packets were lost", x.isWhole(1), false);
        CHECK.due("it is whole behind a reset", x.isWhole(0), true);
    }

    /** "A frame whose number can be divided by 6 is a KEY" */
    private static void keysByTheirNumbers() {
        FilmPlayer x = new FilmPlayer();
        for (int frame = 0; frame < 100; frame += 6) {
            CHECK.due("kindOf " + frame, x.kindOf(frame), FilmPlayer.KEY);
        }
        CHECK.due("kindOf 96", x.kindOf(96), FilmPlayer.KEY);
    }

    /** "another one whose number can be divided by 3 is a STEP" */
    private static void stepsByTheirNumbers() {
        FilmPlayer x = new FilmPlayer();
        for (int frame = 3; frame < 100; frame += 6) {
            CHECK.due("kindOf " + frame, x.kindOf(frame), FilmPlayer.STEP);
        }
        CHECK.due("kindOf 99", x.kindOf(99), FilmPlayer.STEP);
    }

    /** "all others are BETWEEN" */
    private static void betweensByTheirNumbers() {
        FilmPlayer x = new FilmPlayer();
        for (int frame = 0; frame < 99; frame += 3) {
            CHECK.due("kindOf " + (frame + 1), x.kindOf(frame + 1), FilmPlayer.BETWEEN);
            CHECK.due("kindOf " + (frame + 2), x.kindOf(frame + 2), FilmPlayer.BETWEEN);
        }
    }

    /** "A KEY needs nothing." */
    private static void keyNeedsNothing() {
        FilmPlayer x = new FilmPlayer();
        for (int frame = 0; frame < 100; frame += 6) {
            CHECK.due("need before " + frame, x.need(frame, false), FilmPlayer.NONE);
            CHECK.due("need behind " + frame, x.need(frame, true), FilmPlayer.NONE);
        }
    }

    /** "A STEP needs the frame 3 before it." */
    private static void stepNeedsTheOneThreeBefore() {
        FilmPlayer x = new FilmPlayer();
        for (int frame = 3; frame < 100; frame += 6) {
            CHECK.due("need before " + frame, x.need(frame, false), frame - 3);
            CHECK.due("need behind " + frame, x.need(frame, true), FilmPlayer.NONE);
        }
    }

    /** "A BETWEEN needs the latest KEY or STEP before it" */
    private static void betweenNeedsTheLatestBefore() {
        FilmPlayer x = new FilmPlayer();
        for (int frame = 0; frame < 99; frame += 3) {
            CHECK.due("need before " + (frame + 1), x.need(frame + 1, false), frame);
            CHECK.due("need before " + (frame + 2), x.need(frame + 2, false), frame);
        }
    }

    /** "and the next one behind it, if there is one": there is, as the frame 99 is a STEP. */
    private static void betweenNeedsTheNextBehind() {
        FilmPlayer x = new FilmPlayer();
        for (int frame = 0; frame < 99; frame += 3) {
            CHECK.due("need behind " + (frame + 1), x.need(frame + 1, true), frame + 3);
            CHECK.due("need behind " + (frame + 2), x.need(frame + 2, true), frame + 3);
        }
        CHECK.due("need behind 98", x.need(98, true), 99);
    }

    /** "If the film has not begun, and the frames 0 to 2 are whole, it begins" */
    private static void beginsWithTheFramesZeroToTwo() {
        FilmPlayer x = Players.withFrames("WWW");
        CHECK.due("0 to 2: next", x.next(), 1);
        CHECK.due("0 to 2: turn", x.turn(), 10);
        x = Players.withFrames("WW");
        CHECK.due("0 and 1: next", x.next(), 0);
        CHECK.due("0 and 1: turn", x.turn(), FilmPlayer.NONE);
        x = Players.withFrames("WW-WWWWWW");
        CHECK.due("all but 2: next", x.next(), 0);
        x = Players.withFrames("-WWWWWWWW");
        CHECK.due("all but 0: next", x.next(), 0);
        x = Players.withFrames("W-WWWWWWW");
        CHECK.due("all but 1: next", x.next(), 0);
    }

    private static void beginsWithoutOneOfThem() {
        for (int missing = 0; missing < 9; missing++) {
            FilmPlayer x = Players.quick();
            for (int packet = 0; packet < 20; packet++) {
                if (packet != missing) {
                    x.arrive(packet);
                }
            }
            x.advance(50);
            CHECK.due("without " + missing + ": next", x.next(), 0);
            CHECK.due("without " + missing + ": turn", x.turn(), FilmPlayer.NONE);
            CHECK.due("without " + missing + ": fate 0", x.fate(0), FilmPlayer.TO_COME);
            x.arrive(missing);
            CHECK.due("with " + missing + ", no tick passed: turn", x.turn(), FilmPlayer.NONE);
            x.advance(1);
            CHECK.due("with " + missing + ": next", x.next(), 1);
            CHECK.due("with " + missing + ": turn", x.turn(), 60);
        }
    }

    /** "the frame 0 has its turn at this tick" */
    private static void firstTurnAtThisTick() {
        int[] ticks = {0, 1, 7, 99};
        for (int tick : ticks) {
            FilmPlayer x = Players.quick();
            Players.goTo(x, tick);
            x.arriveRow(0, 9);
            CHECK.due("ahead of the tick " + tick + ": fate 0", x.fate(0), FilmPlayer.TO_COME);
            x.advance(1);
            CHECK.due("begun at " + tick + ": fate 0", x.fate(0), FilmPlayer.SHOWN);
            CHECK.due("begun at " + tick + ": turn", x.turn(), tick + 10);
            CHECK.due("begun at " + tick + ": gap", x.gap(), 0);
        }
    }

    private static void beginsOnce() {
        FilmPlayer x = Players.begun(9);
        x.advance(5);
        x.reset();
        x.arriveRow(0, 9);
        x.advance(1);
        CHECK.due("0 to 2 came again: next", x.next(), 1);
        CHECK.due("0 to 2 came again: turn", x.turn(), 10);
        CHECK.due("0 to 2 came again: gap", x.gap(), 0);
    }

    /** The tick 19999 is the last that can pass: the next turn is behind the last tick then. */
    private static void beginsAtTheLastTick() {
        FilmPlayer x = Players.quick();
        Players.goTo(x, 19999);
        x.arriveRow(0, 9);
        CHECK.due("advance 1", x.advance(1), 20000);
        CHECK.due("begun at 19999: next", x.next(), 1);
        CHECK.due("begun at 19999: turn", x.turn(), 20009);
        CHECK.due("begun at 19999: gap", x.gap(), 0);
    }

    /** "and the tick of the next turn is this one, the next frame has its turn" */
    private static void nextTurnAtItsTickAlone() {
        FilmPlayer x = Players.begun(9);
        int[] turns = {10, 21, 32, 43, 54};
        for (int k = 0; k < turns.length; k++) {
            Players.goTo(x, turns[k]);
            CHECK.due("at the tick " + turns[k] + ": next", x.next(), k + 1);
            CHECK.due("at the tick " + turns[k] + ": turn", x.turn(), turns[k]);
            CHECK.due("at the tick " + turns[k] + ": fate", x.fate(k + 1), FilmPlayer.TO_COME);
            x.advance(1);
            CHECK.due("behind the tick " + turns[k] + ": next", x.next(), k + 2);
            CHECK.due("behind the tick " + turns[k] + ": came", x.fate(k + 1) != FilmPlayer.TO_COME, true);
        }
    }

    private static void oneTurnATick() {
        FilmPlayer x = Players.begun(30);
        int before = x.next();
        int turns = 0;
        for (int k = 0; k < 100; k++) {
            x.advance(1);
            int after = x.next();
            CHECK.due("tick " + k + ": one turn at the most", after - before <= 1, true);
            turns += after - before;
            before = after;
        }
        // 9, 18, 27, 36, 46, 56, 66, 76, 87, 98: the fill is 9 to 6 four times, 5 to 2 four times, 1, 0
        CHECK.due("turns in 100 ticks", turns, 10);
        CHECK.due("turn", x.turn(), 109);
    }

    /** "A frame that has its turn is SHOWN if it is whole": all that a KEY asks for. */
    private static void keyIsShownIfWhole() {
        dueFates("WWW---W", "SNNLLLS");
        dueFates("WWW---W-----W", "SNNLLLSLLLLLS");
    }

    /** "LACKING if it is not whole" */
    private static void lackingIfNotWhole() {
        dueFates("WWWW-WW", "SSSSLSS");
        dueFates("WWWWWW-", "SSSSNNL");
        FilmPlayer x = Players.withFrames("WWWW--W");
        x.arriveRow(12, 2);
        x.arriveRow(16, 2);
        Players.goTo(x, 70);
        CHECK.due("one packet short", Players.fates(x, 7), "SSSSLLS");
    }

    /** "otherwise NEEDY": only one that is whole. */
    private static void lackingAheadOfNeedy() {
        dueFates("WWW-W-W", "SNNLNLS");
        dueFates("WWWWWW-W-W", "SSSSNNLNLN");
    }

    /** "what it needs before it was SHOWN" */
    private static void needyWithoutTheOneBefore() {
        dueFates("WWW-WWW", "SNNLNNS");
        dueFates("WWWWWW-WWW", "SSSSNNLNNN");
        dueFates("WWW---WW-W", "SNNLLLSSLS");
    }

    /** "was SHOWN": to be whole by now is not enough. */
    private static void beforeMustHaveBeenShown() {
        FilmPlayer x = Players.withFrames("WWW-WWW");
        // the paces are 10, 11 and 11, as the fills are 2, 1 and 0
        Players.goTo(x, 33);
        CHECK.due("3 had its turn", x.next(), 4);
        x.arriveRow(9, 3);
        x.advance(1);
        CHECK.due("3 is whole, behind its turn", x.isWhole(3), true);
        Players.goTo(x, 70);
        CHECK.due("a late STEP", Players.fates(x, 7), "SNNLNNS");

        x = Players.withFrames("WWWWWW-WWW");
        // the paces are 10 four times, then 11 twice, as the fill goes from 5 to 0
        Players.goTo(x, 63);
        CHECK.due("6 had its turn", x.next(), 7);
        x.arriveRow(18, 3);
        x.advance(1);
        CHECK.due("6 is whole, behind its turn", x.isWhole(6), true);
        Players.goTo(x, 110);
        CHECK.due("a late KEY: the STEP 9 too is NEEDY", Players.fates(x, 10), "SSSSNNLNNN");
    }

    /** "and what it needs behind it is whole" */
    private static void needyWithoutTheOneBehind() {
        dueFates("WWW", "SNN");
        dueFates("WWWWWW", "SSSSNN");
        dueFates("WWW--WW", "SNNLLNS");
        FilmPlayer x = Players.withFrames("WWW");
        x.arriveRow(9, 2);
        Players.goTo(x, 22);
        CHECK.due("one packet short behind", Players.fates(x, 3), "SNN");
    }

    /** The one behind has not had its turn, and yet it serves, as it is whole. */
    private static void behindMayBeShownLater() {
        FilmPlayer x = Players.withFrames("WWWW--W");
        Players.goTo(x, 11);
        CHECK.due("3 is to come", x.fate(3), FilmPlayer.TO_COME);
        CHECK.due("1 is shown", x.fate(1), FilmPlayer.SHOWN);
        dueFates("WWWWWWW", "SSSSSSS");
    }

    /** 1 and 2 have their turns at 10 and 21, and need 3. */
    private static void behindMustBeWholeByThatTick() {
        FilmPlayer x = Players.begun(9);
        Players.goTo(x, 10);
        x.arriveRow(9, 3);
        x.advance(1);
        CHECK.due("whole at the tick of the turn", x.fate(1), FilmPlayer.SHOWN);
        x = Players.begun(9);
        Players.goTo(x, 11);
        x.arriveRow(9, 3);
        x.advance(1);
        CHECK.due("whole a tick later", x.fate(1), FilmPlayer.NEEDY);
        Players.goTo(x, 22);
        CHECK.due("whole ahead of the next one's turn", x.fate(2), FilmPlayer.SHOWN);
    }

    private static void fateStays() {
        FilmPlayer x = Players.begun(9);
        Players.goTo(x, 33);
        CHECK.due("fates", Players.fates(x, 5), "SNNLT");
        x.arriveRow(9, 3);
        x.advance(1);
        CHECK.due("the fates when 3 has come", Players.fates(x, 5), "SNNLT");
        x.reset();
        CHECK.due("the fates behind a reset", Players.fates(x, 5), "SNNLT");
        CHECK.due("shown", x.shown(), 1);
    }

    /** "as many ticks later as the pace: 10; but 9, if the fill is 6 or more, and 11, if it is 1 or less" */
    private static void paceAtItsEdges() {
        // the turn of the frame 2 is at 21; what comes then makes the fill behind it
        int[] paces = {11, 11, 10, 10, 10, 10, 9, 9};
        for (int fill = 0; fill < paces.length; fill++) {
            FilmPlayer x = Players.begun(9);
            Players.goTo(x, 21);
            for (int k = 0; k < fill; k++) {
                x.arriveRow(9 + 3 * k, 3);
            }
            x.advance(1);
            CHECK.due("fill " + fill + ": fill", x.fill(), fill);
            CHECK.due("fill " + fill + ": turn", x.turn(), 21 + paces[fill]);
        }
    }

    /** "(as things are by then)": at the tick of the turn, not ahead of it, nor later. */
    private static void paceByThen() {
        FilmPlayer x = Players.begun(9);
        Players.goTo(x, 10);
        x.arriveRow(9, 15);
        x.advance(1);
        CHECK.due("taken at the tick of the turn: fill", x.fill(), 6);
        CHECK.due("taken at the tick of the turn: turn", x.turn(), 19);
        x = Players.begun(9);
        Players.goTo(x, 11);
        CHECK.due("fill 1: turn", x.turn(), 21);
        x.arriveRow(9, 15);
        x.advance(1);
        CHECK.due("taken a tick later: fill", x.fill(), 6);
        CHECK.due("taken a tick later: turn", x.turn(), 21);
    }

    /** "how many frames ..., one behind the other, are whole" */
    private static void fillOneBehindTheOther() {
        String[] frames = {"WWW-WWWWWW", "WWWW-WWWWW", "WWWWWWW-WW", "WWWWWWWW", "WWWWWWWWW-"};
        int[] fills = {2, 3, 6, 7, 8};
        int[] turns = {10, 10, 9, 9, 9};
        for (int k = 0; k < frames.length; k++) {
            FilmPlayer x = Players.withFrames(frames[k]);
            CHECK.due(frames[k] + ": fill", x.fill(), fills[k]);
            CHECK.due(frames[k] + ": turn", x.turn(), turns[k]);
        }
    }

    /** "from the next one to have its turn on" */
    private static void fillFromTheNextOneOn() {
        FilmPlayer x = Players.withFrames("WW");
        CHECK.due("0 is the next one", x.fill(), 2);
        x = Players.withFrames("WWW");
        CHECK.due("1 is the next one", x.fill(), 2);
        Players.goTo(x, 11);
        CHECK.due("2 is the next one", x.fill(), 1);
        Players.goTo(x, 22);
        CHECK.due("3 is the next one", x.fill(), 0);
        x.arriveRow(12, 6);
        x.advance(1);
        CHECK.due("3 lacks, 4 and 5 do not", x.fill(), 0);
        Players.goTo(x, 33);
        CHECK.due("4 is the next one", x.fill(), 2);
    }

    /** "Behind the frame 99 there are no more turns." */
    private static void noTurnsBehindTheLast() {
        FilmPlayer x = Players.begun(9);
        Players.goTo(x, 1088);
        CHECK.due("the turn of 99", x.turn(), 1088);
        CHECK.due("99 is next", x.next(), 99);
        x.arriveRow(288, 12);
        x.advance(1);
        // 99 is whole now, but 96 was not when it had its turn
        CHECK.due("fate 99", x.fate(99), FilmPlayer.NEEDY);
        String ended = Picture.of(x);
        for (int k = 0; k < 30; k++) {
            x.advance(1);
        }
        CHECK.due("nothing but the tick goes on", Picture.of(x), ended.replace("tick 1089 ", "tick 1119 "));
    }

    /** "It is the next tick." */
    private static void ticksGoOneByOne() {
        FilmPlayer x = new FilmPlayer();
        int due = 0;
        for (int ticks = 1; ticks <= 100; ticks++) {
            due += ticks;
            CHECK.due("advance " + ticks, x.advance(ticks), due);
            CHECK.due("tick", x.tick(), due);
        }
        FilmPlayer y = Players.begun(20);
        FilmPlayer z = Players.begun(20);
        for (int k = 0; k < 77; k++) {
            y.advance(1);
        }
        z.advance(77);
        CHECK.due("77 ticks at once, or one by one", Picture.of(y), Picture.of(z));
    }
}
