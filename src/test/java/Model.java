import java.util.ArrayList;
import java.util.LinkedHashSet;
import java.util.LinkedList;
import java.util.List;
import java.util.Set;

/**
 * The document told a second time, as slowly and as near to its words as can be, to compare the
 * class with. It shares nothing with the class but the numbers of its constants.
 */
final class Model {
    private final LinkedList<int[]> ring = new LinkedList<>();
    private final boolean[] had = new boolean[300];
    private final Set<Integer> asked = new LinkedHashSet<>();
    private final List<Integer> fates = new ArrayList<>();
    private int size = 16;
    private int join = 4;
    private int patience = 3;
    private int load = 8;
    private int tick = 0;
    private int lost = 0;
    private boolean polled = false;
    private boolean begun = false;
    private int begin = 0;
    private int turn = 0;

    void set(int newSize, int newJoin, int newPatience, int newLoad) {
        requireArgument(in(newSize, 1, 32) && in(newJoin, 1, 32));
        requireArgument(in(newPatience, 1, 50) && in(newLoad, 1, 32));
        size = newSize;
        join = newJoin;
        patience = newPatience;
        load = newLoad;
    }

    int arrive(int packet) {
        requireIndex(in(packet, 0, 299));
        if (ring.size() >= size) {
            lost++;
            return -1;
        }
        ring.addLast(new int[] {packet, tick});
        return ring.size();
    }

    int arriveRow(int first, int many) {
        requireIndex(in(first, 0, 299) && (long) first + many <= 300);
        requireArgument(in(many, 1, 30));
        int before = lost;
        for (int packet = first; packet < first + many; packet++) {
            arrive(packet);
        }
        return lost - before;
    }

    int advance(int ticks) {
        requireArgument(in(ticks, 1, 100));
        if (tick + ticks > 20000) {
            throw new IllegalStateException();
        }
        for (int k = 0; k < ticks; k++) {
            take();
            ask();
            play();
            tick++;
        }
        return tick;
    }

    int reset() {
        int waiting = ring.size();
        lost += waiting;
        ring.clear();
        polled = false;
        return waiting;
    }

    int kindOf(int frame) {
        requireIndex(in(frame, 0, 99));
        return frame % 6 == 0 ? 0 : frame % 3 == 0 ? 1 : 2;
    }

    int need(int frame, boolean isBehind) {
        int kind = kindOf(frame);
        if (kind == 0 || kind == 1 && isBehind) {
            return -1;
        }
        if (kind == 1) {
            return frame - 3;
        }
        int other = frame;
        do {
            other += isBehind ? 1 : -1;
        } while (in(other, 0, 99) && kindOf(other) == 2);
        return in(other, 0, 99) ? other : -1;
    }

    boolean has(int packet) {
        requireIndex(in(packet, 0, 299));
        return had[packet];
    }

    int askedAt(int k) {
        requireIndex(in(k, 0, asked.size() - 1));
        return new ArrayList<>(asked).get(k);
    }

    boolean isWhole(int frame) {
        requireIndex(in(frame, 0, 99));
        return had[3 * frame] && had[3 * frame + 1] && had[3 * frame + 2];
    }

    int fate(int frame) {
        requireIndex(in(frame, 0, 99));
        return frame < fates.size() ? fates.get(frame) : 0;
    }

    String picture() {
        StringBuilder text = new StringBuilder();
        text.append("tick ").append(tick).append(" waiting ").append(ring.size());
        text.append(" lost ").append(lost).append(" polled ").append(polled);
        boolean hasTurn = begun && fates.size() < 100;
        text.append(" next ").append(fates.size() < 100 ? fates.size() : -1);
        text.append(" turn ").append(hasTurn ? turn : -1);
        int shown = 0;
        int couldBe = 0;
        for (int frame = 0; frame < fates.size(); frame++) {
            shown += fates.get(frame) == 1 ? 1 : 0;
            couldBe += couldShow(frame) ? 1 : 0;
        }
        text.append(" fill ").append(fill()).append(" shown ").append(shown);
        text.append(" couldBe ").append(couldBe);
        text.append(" gap ").append(hasTurn ? turn - begin - 10 * fates.size() : 0);
        text.append(" had ");
        for (int packet = 0; packet < 300; packet++) {
            text.append(has(packet) ? '1' : '0');
        }
        text.append(" whole ");
        for (int frame = 0; frame < 100; frame++) {
            text.append(isWhole(frame) ? '1' : '0');
        }
        text.append(" fates ");
        for (int frame = 0; frame < 100; frame++) {
            text.append(fate(frame));
        }
        text.append(" asked ").append(asked.size()).append(':');
        for (int packet : asked) {
            text.append(' ').append(packet);
        }
        return text.toString();
    }

    private void take() {
        int many = 0;
        if (!polled) {
            boolean isOld = !ring.isEmpty() && tick - ring.getFirst()[1] >= patience;
            if (ring.size() >= join || isOld) {
                many = ring.size();
                polled = many >= load;
            }
        } else if (ring.isEmpty()) {
            polled = false;
        } else {
            many = ring.size() < 6 ? ring.size() : 6;
        }
        for (int k = 0; k < many; k++) {
            had[ring.removeFirst()[0]] = true;
        }
    }

    private void ask() {
        int highest = -1;
        for (int packet = 0; packet < 300; packet++) {
            highest = had[packet] ? packet : highest;
        }
        for (int packet = 0; packet < highest; packet++) {
            if (!had[packet] && !asked.contains(packet) && packet / 3 >= fates.size()) {
                asked.add(packet);
            }
        }
    }

    private void play() {
        if (!begun && isWhole(0) && isWhole(1) && isWhole(2)) {
            begun = true;
            begin = tick;
            turn = tick;
        }
        if (!begun || turn != tick || fates.size() == 100) {
            return;
        }
        int frame = fates.size();
        int before = need(frame, false);
        int behind = need(frame, true);
        if (!isWhole(frame)) {
            fates.add(2);
        } else if (before != -1 && fate(before) != 1 || behind != -1 && !isWhole(behind)) {
            fates.add(3);
        } else {
            fates.add(1);
        }
        int fill = fill();
        turn = tick + (fill >= 6 ? 9 : fill <= 1 ? 11 : 10);
    }

    private int fill() {
        int many = 0;
        while (fates.size() + many < 100 && isWhole(fates.size() + many)) {
            many++;
        }
        return many;
    }

    private boolean couldShow(int frame) {
        return frame == -1
            || isWhole(frame) && couldShow(need(frame, false)) && couldShow(need(frame, true));
    }

    private static boolean in(int number, int least, int most) {
        return number >= least && number <= most;
    }

    private static void requireArgument(boolean holds) {
        if (!holds) {
            throw new IllegalArgumentException();
        }
    }

    private static void requireIndex(boolean holds) {
        if (!holds) {
            throw new IndexOutOfBoundsException();
        }
    }
}
