/** The sentence of step 2, "Packets are asked for", part by part, each at its edges. */
public final class AskingEdgeTest {
    private static final Check CHECK = new Check("AskingEdgeTest");

    public static void main(String[] args) {
        nothingIsHad();
        belowTheHighest();
        notTheHighestNorAbove();
        highestThatIsHad();
        byRisingNumbers();
        notThoseThatAreHad();
        neverAskedTwice();
        frameOfTheNextTurn();
        frameWhoseTurnIsAtThisTick();
        noneWhenAllFramesHadTurns();
        aheadOfTheBeginning();
        takenAtThatTickCounts();
        onlyWhenATickPasses();
        CHECK.end();
    }

    private static void dueAsked(String name, FilmPlayer x, int first, int last) {
        int many = Math.max(0, last - first + 1);
        CHECK.due(name + ": asked", x.asked(), many);
        for (int k = 0; k < many && k < x.asked(); k++) {
            CHECK.due(name + ": askedAt " + k, x.askedAt(k), first + k);
        }
        CHECK.dueThrow(name + ": askedAt " + many, IndexOutOfBoundsException.class, () -> x.askedAt(many));
    }

    private static void nothingIsHad() {
        FilmPlayer x = new FilmPlayer();
        x.advance(100);
        dueAsked("nothing is had", x, 0, -1);
    }

    /** "each one below the highest one that is had" */
    private static void belowTheHighest() {
        int[] highest = {0, 1, 2, 3, 150, 298, 299};
        for (int packet : highest) {
            FilmPlayer x = Players.quick();
            x.arrive(packet);
            x.advance(1);
            dueAsked("the highest is " + packet, x, 0, packet - 1);
        }
    }

    private static void notTheHighestNorAbove() {
        FilmPlayer x = Players.quick();
        x.arriveRow(0, 30);
        x.advance(5);
        dueAsked("0 to 29 are had", x, 0, -1);
        x.arrive(31);
        x.advance(5);
        dueAsked("31 is had", x, 30, 30);
    }

    /** "that is had": one that waits, or was lost, is no highest one. */
    private static void highestThatIsHad() {
        FilmPlayer x = new FilmPlayer();
        x.set(1, 32, 50, 32);
        x.arrive(9);
        x.arrive(20);
        x.advance(50);
        dueAsked("9 waits, 20 is lost", x, 0, -1);
        x.advance(1);
        dueAsked("9 is had", x, 0, 8);
        x.arrive(30);
        x.reset();
        x.advance(60);
        dueAsked("30 is lost by a reset", x, 0, 8);
    }

    /** "by rising numbers" */
    private static void byRisingNumbers() {
        FilmPlayer x = Players.quick();
        int[] packets = {12, 4, 9, 0};
        for (int packet : packets) {
            x.arrive(packet);
        }
        x.advance(1);
        x.arrive(2);
        x.arrive(15);
        x.arrive(14);
        x.advance(1);
        int[] due = {1, 2, 3, 5, 6, 7, 8, 10, 11, 13};
        CHECK.due("rising: asked", x.asked(), due.length);
        for (int k = 0; k < due.length; k++) {
            CHECK.due("rising: askedAt " + k, x.askedAt(k), due[k]);
        }
    }

    /** "that is not had" */
    private static void notThoseThatAreHad() {
        FilmPlayer x = Players.quick();
        x.arriveRow(0, 4);
        x.arriveRow(5, 4);
        x.advance(1);
        dueAsked("only 4 is lacking", x, 4, 4);
        x = Players.quick();
        x.arriveRow(1, 5);
        x.advance(1);
        dueAsked("only 0 is lacking", x, 0, 0);
        x = Players.quick();
        x.arriveRow(0, 3);
        x.arrive(4);
        x.advance(1);
        dueAsked("only 3 is lacking", x, 3, 3);
    }

    /** "was never asked for" */
    private static void neverAskedTwice() {
        FilmPlayer x = Players.quick();
        x.arrive(3);
        x.advance(1);
        dueAsked("0 to 2", x, 0, 2);
        x.advance(100);
        dueAsked("they still lack", x, 0, 2);
        x.arrive(1);
        x.reset();
        x.advance(2);
        dueAsked("one came and was lost", x, 0, 2);
        x.arriveRow(0, 3);
        x.advance(1);
        dueAsked("they are had", x, 0, 2);
        x.arrive(5);
        x.advance(1);
        CHECK.due("4 is asked for: asked", x.asked(), 4);
        CHECK.due("4 is asked for: askedAt 3", x.askedAt(3), 4);
    }

    /** "and whose frame has not had its turn": the frames 0 to 2 had theirs at 0, 10, 21; 3 has its at 32. */
    private static void frameOfTheNextTurn() {
        FilmPlayer x = Players.begun(9);
        Players.goTo(x, 31);
        x.arrive(12);
        x.advance(1);
        dueAsked("a tick ahead of the turn of 3", x, 9, 11);
        x = Players.begun(9);
        Players.goTo(x, 33);
        x.arrive(15);
        x.advance(1);
        dueAsked("a tick behind the turn of 3", x, 12, 14);
        x = Players.begun(9);
        Players.goTo(x, 43);
        x.arrive(12);
        x.advance(1);
        dueAsked("none of the frame 3 behind its turn", x, 0, -1);
    }

    /** Step 2 comes ahead of step 3: the frame whose turn is at this tick has not had it. */
    private static void frameWhoseTurnIsAtThisTick() {
        FilmPlayer x = Players.begun(9);
        Players.goTo(x, 32);
        CHECK.due("the turn is at this tick", x.turn(), 32);
        x.arrive(12);
        x.advance(1);
        CHECK.due("3 had its turn", x.fate(3), FilmPlayer.LACKING);
        dueAsked("at the tick of the turn of 3", x, 9, 11);
    }

    private static void noneWhenAllFramesHadTurns() {
        FilmPlayer x = Players.begun(9);
        // 99 has its turn at 21 + 97 * 11
        Players.goTo(x, 1088);
        x.arrive(299);
        x.advance(1);
        dueAsked("at the tick of the turn of 99", x, 297, 298);
        x = Players.begun(9);
        Players.goTo(x, 1089);
        x.arrive(299);
        x.advance(1);
        CHECK.due("behind the turn of 99: has 299", x.has(299), true);
        dueAsked("behind the turn of 99", x, 0, -1);
    }

    private static void aheadOfTheBeginning() {
        FilmPlayer x = Players.quick();
        x.advance(100);
        x.arriveRow(1, 9);
        x.advance(100);
        dueAsked("the film has not begun", x, 0, 0);
        x.arrive(0);
        x.arrive(12);
        x.advance(1);
        CHECK.due("it begins: next", x.next(), 1);
        CHECK.due("it begins: asked", x.asked(), 3);
        CHECK.due("it begins: askedAt 1", x.askedAt(1), 10);
        CHECK.due("it begins: askedAt 2", x.askedAt(2), 11);
    }

    /** Step 2 comes behind step 1: what is taken at this tick is had, what waits on is not. */
    private static void takenAtThatTickCounts() {
        FilmPlayer x = Players.polled();
        int[] packets = {9, 1, 2, 3, 4, 5, 6};
        for (int packet : packets) {
            x.arrive(packet);
        }
        x.advance(1);
        dueAsked("6 waits on", x, 6, 8);
        x.advance(1);
        CHECK.due("6 is had", x.has(6), true);
        dueAsked("6 was asked for", x, 6, 8);
    }

    private static void onlyWhenATickPasses() {
        FilmPlayer x = Players.quick();
        x.arrive(9);
        CHECK.due("no tick passed: asked", x.asked(), 0);
        x.set(32, 1, 1, 1);
        CHECK.due("set asks for none", x.asked(), 0);
        x.advance(1);
        CHECK.due("a tick passed: asked", x.asked(), 9);
        x.reset();
        CHECK.due("reset keeps it: asked", x.asked(), 9);
    }
}
