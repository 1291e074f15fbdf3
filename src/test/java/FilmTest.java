/** Promises 14 to 23: kinds, needs, turns, fates and the pace. */
public final class FilmTest {
    private static final Check CHECK = new Check("FilmTest");

    public static void main(String[] args) {
        kindsAndNeeds();
        wholeFrames();
        beginsWithThreeFrames();
        beginsLate();
        takenAtTheTickOfTheTurn();
        paceFollowsTheFill();
        paceOfLittle();
        paceLooksAtThatTick();
        fillStopsAtAHole();
        wholeFilm();
        fatesBehindALackingKey();
        fatesBehindALackingStep();
        lateNeedsHelpOnlyCouldBe();
        couldBeCountsTurnsOnly();
        endOfALackingFilm();
        CHECK.end();
    }

    private static void dueFates(FilmPlayer x, String due) {
        StringBuilder got = new StringBuilder();
        for (int frame = 0; frame < due.length(); frame++) {
            got.append("TSLN".charAt(x.fate(frame)));
        }
        CHECK.due("fates", got.toString(), due);
    }

    private static void kindsAndNeeds() {
        FilmPlayer x = new FilmPlayer();
        int[] kinds = {FilmPlayer.KEY, FilmPlayer.BETWEEN, FilmPlayer.BETWEEN,
            FilmPlayer.STEP, FilmPlayer.BETWEEN, FilmPlayer.BETWEEN};
        int[] before = {FilmPlayer.NONE, -1, -2, -3, -1, -2};
        int[] behind = {FilmPlayer.NONE, 2, 1, FilmPlayer.NONE, 2, 1};
        for (int frame = 0; frame < 100; frame++) {
            int place = frame % 6;
            boolean isKey = place == 0;
            boolean isBetween = place % 3 != 0;
            CHECK.due("kindOf " + frame, x.kindOf(frame), kinds[place]);
            CHECK.due("need before " + frame, x.need(frame, false),
                isKey ? FilmPlayer.NONE : frame + before[place]);
            CHECK.due("need behind " + frame, x.need(frame, true),
                isBetween ? frame + behind[place] : FilmPlayer.NONE);
        }
        CHECK.due("kindOf 99", x.kindOf(99), FilmPlayer.STEP);
        CHECK.due("need before 99", x.need(99, false), 96);
        CHECK.due("need behind 99", x.need(99, true), FilmPlayer.NONE);
        CHECK.due("need before 97", x.need(97, false), 96);
        CHECK.due("need behind 97", x.need(97, true), 99);
    }

    private static void wholeFrames() {
        for (int missing = 0; missing < 3; missing++) {
            FilmPlayer x = Players.quick();
            for (int packet = 294; packet < 300; packet++) {
                if (packet != 297 + missing) {
                    x.arrive(packet);
                }
            }
            CHECK.due("isWhole 98 while it waits", x.isWhole(98), false);
            x.advance(1);
            CHECK.due("isWhole 98", x.isWhole(98), true);
            CHECK.due("isWhole 99 without " + missing, x.isWhole(99), false);
            CHECK.due("isWhole 97", x.isWhole(97), false);
            x.arrive(297 + missing);
            x.advance(1);
            CHECK.due("isWhole 99", x.isWhole(99), true);
        }
    }

    private static void beginsWithThreeFrames() {
        FilmPlayer x = Players.quick();
        x.arriveRow(0, 8);
        x.arriveRow(9, 20);
        x.advance(30);
        CHECK.due("without 8: next", x.next(), 0);
        CHECK.due("without 8: turn", x.turn(), FilmPlayer.NONE);
        CHECK.due("without 8: gap", x.gap(), 0);
        CHECK.due("without 8: fill", x.fill(), 2);
        CHECK.due("without 8: fate 0", x.fate(0), FilmPlayer.TO_COME);
        CHECK.due("without 8: couldBe", x.couldBe(), 0);
        x.arrive(8);
        x.advance(1);
        CHECK.due("next", x.next(), 1);
        CHECK.due("fate 0", x.fate(0), FilmPlayer.SHOWN);
        CHECK.due("fill", x.fill(), 8);
        CHECK.due("turn", x.turn(), 39);
        CHECK.due("gap", x.gap(), -1);
        CHECK.due("shown", x.shown(), 1);
        CHECK.due("couldBe", x.couldBe(), 1);

        for (int missing = 0; missing < 9; missing++) {
            FilmPlayer y = Players.quick();
            for (int packet = 0; packet < 12; packet++) {
                if (packet != missing) {
                    y.arrive(packet);
                }
            }
            y.advance(2);
            CHECK.due("begins without " + missing, y.next(), 0);
        }
    }

    private static void beginsLate() {
        FilmPlayer x = Players.quick();
        x.advance(100);
        x.arriveRow(0, 9);
        x.advance(1);
        CHECK.due("turn", x.turn(), 110);
        CHECK.due("gap", x.gap(), 0);
        x.advance(9);
        CHECK.due("at the tick 110: next", x.next(), 1);
        x.advance(1);
        CHECK.due("behind the tick 110: next", x.next(), 2);
        CHECK.due("turn", x.turn(), 121);
        CHECK.due("gap", x.gap(), 1);
    }

    private static void takenAtTheTickOfTheTurn() {
        FilmPlayer x = Players.begun(9);
        x.advance(31);
        CHECK.due("turn", x.turn(), 32);
        CHECK.due("tick", x.tick(), 32);
        x.arriveRow(9, 3);
        x.advance(1);
        CHECK.due("fate 3, taken at that tick", x.fate(3), FilmPlayer.SHOWN);
        x = Players.begun(9);
        x.advance(32);
        x.arriveRow(9, 3);
        x.advance(1);
        CHECK.due("fate 3, taken a tick later", x.fate(3), FilmPlayer.LACKING);
    }

    private static void paceFollowsTheFill() {
        int[] packets = {9, 12, 15, 18, 21, 24, 30};
        int[] fills = {2, 3, 4, 5, 6, 7, 9};
        int[] turns = {10, 10, 10, 10, 9, 9, 9};
        for (int k = 0; k < packets.length; k++) {
            FilmPlayer x = Players.begun(packets[k]);
            CHECK.due("fill of " + packets[k], x.fill(), fills[k]);
            CHECK.due("turn with a fill of " + fills[k], x.turn(), turns[k]);
            CHECK.due("gap with a fill of " + fills[k], x.gap(), turns[k] - 10);
        }
    }

    private static void paceOfLittle() {
        FilmPlayer x = Players.begun(9);
        CHECK.due("fill 2: turn", x.turn(), 10);
        x.advance(10);
        CHECK.due("fill", x.fill(), 1);
        CHECK.due("fill 1: turn", x.turn(), 21);
        CHECK.due("gap", x.gap(), 1);
        x.advance(11);
        CHECK.due("fill", x.fill(), 0);
        CHECK.due("fill 0: turn", x.turn(), 32);
        CHECK.due("gap", x.gap(), 2);
    }

    private static void paceLooksAtThatTick() {
        FilmPlayer x = Players.begun(9);
        x.arriveRow(9, 21);
        x.advance(1);
        CHECK.due("fill", x.fill(), 9);
        CHECK.due("what comes later leaves the turn", x.turn(), 10);
        x.advance(9);
        CHECK.due("turn", x.turn(), 19);
    }

    private static void fillStopsAtAHole() {
        FilmPlayer x = Players.quick();
        x.arriveRow(0, 13);
        x.arriveRow(15, 15);
        x.advance(1);
        CHECK.due("fill", x.fill(), 3);
        x.arrive(13);
        x.arrive(14);
        x.advance(1);
        CHECK.due("fill", x.fill(), 9);
        x = Players.quick();
        x.arriveRow(3, 30);
        x.advance(1);
        CHECK.due("fill without the frame 0", x.fill(), 0);
    }

    private static void wholeFilm() {
        FilmPlayer x = Players.quick();
        for (int row = 0; row < 10; row++) {
            x.arriveRow(30 * row, 30);
            x.advance(1);
        }
        CHECK.due("fill", x.fill(), 98);
        for (int k = 0; k < 8; k++) {
            x.advance(100);
        }
        x.advance(36);
        CHECK.due("tick", x.tick(), 846);
        CHECK.due("next", x.next(), 94);
        CHECK.due("turn", x.turn(), 846);
        CHECK.due("gap", x.gap(), -94);
        x.advance(1);
        CHECK.due("fill 5: turn", x.turn(), 856);
        x.advance(50);
        CHECK.due("tick", x.tick(), 897);
        CHECK.due("next", x.next(), 99);
        CHECK.due("turn", x.turn(), 897);
        CHECK.due("fill", x.fill(), 1);
        CHECK.due("gap", x.gap(), -93);
        CHECK.due("shown", x.shown(), 99);
        x.advance(1);
        dueEnded(x);
        CHECK.due("shown", x.shown(), 100);
        CHECK.due("couldBe", x.couldBe(), 100);
        x.arriveRow(0, 9);
        x.advance(100);
        dueEnded(x);
        CHECK.due("shown", x.shown(), 100);
        for (int frame = 0; frame < 100; frame++) {
            CHECK.due("fate " + frame, x.fate(frame), FilmPlayer.SHOWN);
        }
    }

    private static void dueEnded(FilmPlayer x) {
        CHECK.due("ended: next", x.next(), FilmPlayer.NONE);
        CHECK.due("ended: turn", x.turn(), FilmPlayer.NONE);
        CHECK.due("ended: gap", x.gap(), 0);
        CHECK.due("ended: fill", x.fill(), 0);
    }

    private static void fatesBehindALackingKey() {
        FilmPlayer x = Players.quick();
        x.arriveRow(0, 18);
        x.arriveRow(19, 13);
        x.advance(1);
        x.arriveRow(32, 10);
        // the turns are at 0, 10, 20, 30, 40, 51, 62, 71, 80, 90, 100, 110, 120, 131
        x.advance(100);
        x.advance(24);
        dueFates(x, "SSSSNNLNNNNNSTTT");
        CHECK.due("shown", x.shown(), 5);
        CHECK.due("couldBe", x.couldBe(), 5);
        CHECK.due("next", x.next(), 13);
        x.arrive(18);
        x.advance(1);
        dueFates(x, "SSSSNNLNNNNNSTTT");
        CHECK.due("shown", x.shown(), 5);
        CHECK.due("couldBe with the late packet", x.couldBe(), 13);
    }

    private static void fatesBehindALackingStep() {
        FilmPlayer x = Players.quick();
        x.arriveRow(0, 9);
        x.arriveRow(12, 15);
        x.advance(90);
        dueFates(x, "SNNLNNSNNT");
        CHECK.due("shown", x.shown(), 2);
        CHECK.due("couldBe", x.couldBe(), 2);
        x.arriveRow(9, 2);
        x.advance(1);
        CHECK.due("couldBe, 3 lacking still", x.couldBe(), 2);
        x.arrive(11);
        x.advance(1);
        CHECK.due("couldBe, 3 whole", x.couldBe(), 7);
        x.arriveRow(27, 3);
        x.advance(1);
        CHECK.due("next", x.next(), 9);
        CHECK.due("couldBe, 9 whole ahead of its turn", x.couldBe(), 9);
        CHECK.due("shown", x.shown(), 2);
    }

    private static void lateNeedsHelpOnlyCouldBe() {
        // the KEY 6 is whole after its own turn, and ahead of those of 7 to 11
        FilmPlayer x = Players.quick();
        x.arriveRow(0, 18);
        x.arriveRow(19, 13);
        x.advance(1);
        x.arriveRow(32, 10);
        x.advance(64);
        CHECK.due("next", x.next(), 7);
        x.arrive(18);
        x.advance(60);
        dueFates(x, "SSSSNNLNNNNNSTTT");
        CHECK.due("couldBe", x.couldBe(), 13);
    }

    private static void couldBeCountsTurnsOnly() {
        FilmPlayer x = Players.begun(30);
        CHECK.due("couldBe", x.couldBe(), 1);
        x.advance(9);
        CHECK.due("couldBe", x.couldBe(), 2);

        // a late KEY alone: its STEP and what leans on that is not whole
        x = Players.begun(9);
        x.advance(100);
        CHECK.due("next", x.next(), 10);
        CHECK.due("couldBe", x.couldBe(), 1);
        x.arriveRow(27, 9);
        x.advance(1);
        CHECK.due("9 whole without 6: couldBe", x.couldBe(), 1);
        x.arriveRow(18, 3);
        x.advance(1);
        CHECK.due("9 whole with 6: couldBe", x.couldBe(), 3);
    }

    private static void endOfALackingFilm() {
        FilmPlayer x = Players.begun(9);
        for (int k = 0; k < 10; k++) {
            x.advance(100);
        }
        // the turns from the frame 2 on are each 11 ticks later: 21 + 97 * 11
        x.advance(87);
        CHECK.due("tick", x.tick(), 1088);
        CHECK.due("turn", x.turn(), 1088);
        CHECK.due("next", x.next(), 99);
        CHECK.due("gap", x.gap(), 98);
        CHECK.due("fate 99", x.fate(99), FilmPlayer.TO_COME);
        x.advance(1);
        dueEnded(x);
        CHECK.due("fate 99", x.fate(99), FilmPlayer.LACKING);
        CHECK.due("shown", x.shown(), 1);
        x.arriveRow(9, 3);
        x.arriveRow(288, 12);
        x.advance(1);
        CHECK.due("couldBe behind the end", x.couldBe(), 8);
        CHECK.due("shown", x.shown(), 1);
    }
}
