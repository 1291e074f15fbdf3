/**
 * A player of a film that comes in packets: a ring of buffers between a card and its driver,
 * frames that lean on others, and a pace that follows how much is there.
 */
public final class FilmPlayer {
    /** None. */
    public static final int NONE = -1;
    /** Kinds of frames. */
    public static final int KEY = 0, STEP = 1, BETWEEN = 2;
    /** What became of frames. */
    public static final int TO_COME = 0, SHOWN = 1, LACKING = 2, NEEDY = 3;

    private static final int FRAMES = 100;
    private static final int PACKETS_OF_FRAME = 3;
    private static final int PACKETS = FRAMES * PACKETS_OF_FRAME;
    private static final int MOST_WAITING = 32;
    private static final int MOST_PATIENCE = 50;
    private static final int MOST_IN_ROW = 30;
    private static final int MOST_TICKS = 100;
    private static final int LAST_TICK = 20000;

    private final Ring ring;
    private final Store store;
    private final Film film;
    private int now;

    public FilmPlayer() {
        ring = new Ring();
        store = new Store();
        film = new Film(store);
    }

    // ---- settings, arriving, ticks

    /** Sets size, join, patience and load; what waits stays, also if it is more than the size. */
    public void set(int size, int join, int patience, int load) throws IllegalArgumentException {
        if (!isFromOneTo(size, MOST_WAITING) || !isFromOneTo(join, MOST_WAITING)
                || !isFromOneTo(patience, MOST_PATIENCE) || !isFromOneTo(load, MOST_WAITING)) {
            throw new IllegalArgumentException("an argument is out of range");
        }
        ring.size = size;
        ring.join = join;
        ring.patience = patience;
        ring.load = load;
    }

    /** A packet arrives; answers how many wait then, or NONE if it is lost. */
    public int arrive(int packet) throws IndexOutOfBoundsException {
        if (!isPacket(packet)) {
            throw new IndexOutOfBoundsException("no such packet");
        }
        return ring.put(packet, now) ? ring.count : NONE;
    }

    /** Packets arrive one after the other; answers how many of them are lost. */
    public int arriveRow(int first, int many) throws IndexOutOfBoundsException, IllegalArgumentException {
        // many is compared with a difference, as a sum could wrap around
        if (!isPacket(first) || many > PACKETS - first) {
            throw new IndexOutOfBoundsException("no such packets");
        }
        if (!isFromOneTo(many, MOST_IN_ROW)) {
            throw new IllegalArgumentException("many is out of range");
        }
        int lostOfRow = 0;
        for (int k = 0; k < many; k++) {
            if (!ring.put(first + k, now)) {
                lostOfRow++;
            }
        }
        return lostOfRow;
    }

    /** Lets ticks pass; answers the tick then. */
    public int advance(int ticks) throws IllegalArgumentException, IllegalStateException {
        if (!isFromOneTo(ticks, MOST_TICKS)) {
            throw new IllegalArgumentException("ticks is out of range");
        }
        if (now + ticks > LAST_TICK) {
            throw new IllegalStateException("the tick would be above the last one");
        }
        for (int k = 0; k < ticks; k++) {
            passTick();
        }
        return now;
    }

    /** The card is reset; answers how many packets are lost by that. */
    public int reset() {
        return ring.loseAll();
    }

    // ---- the ring

    /** The tick. */
    public int tick() {
        return now;
    }

    /** How many packets wait. */
    public int waiting() {
        return ring.count;
    }

    /** How many packets were lost, in the ring and by resets. */
    public int lost() {
        return ring.lostCount;
    }

    /** Whether the driver is POLLED. */
    public boolean isPolled() {
        return ring.polling;
    }

    /** Whether a packet is had. */
    public boolean has(int packet) throws IndexOutOfBoundsException {
        if (!isPacket(packet)) {
            throw new IndexOutOfBoundsException("no such packet");
        }
        return store.holds(packet);
    }

    /** The k-th packet that was asked for, from 0. */
    public int askedAt(int k) throws IndexOutOfBoundsException {
        if (k < 0 || k >= store.askedCount) {
            throw new IndexOutOfBoundsException("not so many were asked for");
        }
        return store.askedRow[k];
    }

    /** How many packets were asked for. */
    public int asked() {
        return store.askedCount;
    }

    // ---- frames

    /** The kind of a frame: KEY, STEP or BETWEEN. */
    public int kindOf(int frame) throws IndexOutOfBoundsException {
        if (!isFrame(frame)) {
            throw new IndexOutOfBoundsException("no such frame");
        }
        return Film.kind(frame);
    }

    /** The frame that a frame needs behind it, or else before it; NONE if it needs none there. */
    public int need(int frame, boolean isBehind) throws IndexOutOfBoundsException {
        if (!isFrame(frame)) {
            throw new IndexOutOfBoundsException("no such frame");
        }
        return isBehind ? Film.needBehind(frame) : Film.needBefore(frame);
    }

    /** Whether all packets of a frame are had. */
    public boolean isWhole(int frame) throws IndexOutOfBoundsException {
        if (!isFrame(frame)) {
            throw new IndexOutOfBoundsException("no such frame");
        }
        return store.holdsFrame(frame);
    }

    /** What became of a frame: TO_COME, SHOWN, LACKING or NEEDY. */
    public int fate(int frame) throws IndexOutOfBoundsException {
        if (!isFrame(frame)) {
            throw new IndexOutOfBoundsException("no such frame");
        }
        return film.fates[frame];
    }

    /** The next frame to have its turn; NONE behind the last one. */
    public int next() {
        return film.nextFrame < FRAMES ? film.nextFrame : NONE;
    }

    /** The tick of the next turn; NONE if the film has not begun, or has ended. */
    public int turn() {
        return film.turnTick;
    }

    /** How many frames, from the next one on, one behind the other, are whole. */
    public int fill() {
        return film.wholeAhead();
    }

    /** How many frames were SHOWN. */
    public int shown() {
        return film.shownCount;
    }

    /** How many frames of those that had their turns would have been SHOWN with all that is had by now. */
    public int couldBe() {
        return film.countShowable();
    }

    /** By how many ticks the picture is behind its sound; 0 if there is no next turn. */
    public int gap() {
        return film.delay();
    }

    private void passTick() {
        int many = ring.chooseMany(now);
        for (int k = 0; k < many; k++) {
            store.add(ring.packetAt(k));
        }
        ring.removeFirst(many);
        store.askForMissing(film.nextFrame);
        film.play(now);
        now++;
    }

    private static boolean isFromOneTo(int number, int most) {
        return number >= 1 && number <= most;
    }

    private static boolean isPacket(int packet) {
        return packet >= 0 && packet < PACKETS;
    }

    private static boolean isFrame(int frame) {
        return frame >= 0 && frame < FRAMES;
    }

    /** The packets that wait between the card and its driver, and how the driver takes them. */
    private static final class Ring {
        private static final int MOST_POLLED = 6;

        // the one that waits longest stands at 0
        private final int[] packets = new int[MOST_WAITING];
        private final int[] arrivals = new int[MOST_WAITING];
        private int count = 0;
        private int size = 16;
        private int join = 4;
        private int patience = 3;
        private int load = 8;
        private boolean polling = false;
        private int lostCount = 0;

        /** Answers whether the packet waits now; otherwise it is lost. */
        boolean put(int packet, int tick) {
            // the second test only guards the rows: no size is above theirs
            if (count >= size || count >= MOST_WAITING) {
                lostCount++;
                return false;
            }
            packets[count] = packet;
            arrivals[count] = tick;
            count++;
            return true;
        }

        int loseAll() {
            int lostNow = count;
            lostCount += lostNow;
            count = 0;
            polling = false;
            return lostNow;
        }

        /** Answers how many of the first ones the driver takes at this tick, and switches the driver. */
        int chooseMany(int tick) {
            if (polling) {
                int many = Math.min(count, MOST_POLLED);
                polling = many > 0;
                return many;
            }
            if (!isInterruptDue(tick)) {
                return 0;
            }
            polling = count >= load;
            return count;
        }

        private boolean isInterruptDue(int tick) {
            return count >= join || count > 0 && tick - arrivals[0] >= patience;
        }

        int packetAt(int place) {
            return place >= 0 && place < count && place < MOST_WAITING ? packets[place] : NONE;
        }

        void removeFirst(int many) {
            int from = Math.max(0, many);
            int kept = 0;
            for (int k = from; k < count && k < MOST_WAITING; k++) {
                packets[kept] = packets[k];
                arrivals[kept] = arrivals[k];
                kept++;
            }
            count = kept;
        }
    }

    /** The packets that are had, and those that were asked for. */
    private static final class Store {
        private final boolean[] had = new boolean[PACKETS];
        private final int[] askedRow = new int[PACKETS];
        private int askedCount = 0;
        private int highest = NONE;
        private int lookedUpTo = 0;

        void add(int packet) {
            if (isPacket(packet)) {
                had[packet] = true;
                highest = Math.max(highest, packet);
            }
        }

        boolean holds(int packet) {
            return isPacket(packet) && had[packet];
        }

        boolean holdsFrame(int frame) {
            int first = frame * PACKETS_OF_FRAME;
            return frame >= 0 && frame < FRAMES && had[first] && had[first + 1] && had[first + 2];
        }

        /**
         * A packet is looked at once, as soon as a higher one is had: from then on it is had,
         * was asked for, or its frame has had its turn, and each of these stays so.
         */
        void askForMissing(int nextFrame) {
            for (int packet = lookedUpTo; packet < highest; packet++) {
                if (!holds(packet) && packet / PACKETS_OF_FRAME >= nextFrame) {
                    ask(packet);
                }
            }
            lookedUpTo = Math.max(lookedUpTo, highest);
        }

        private void ask(int packet) {
            if (askedCount < PACKETS) {
                askedRow[askedCount] = packet;
                askedCount++;
            }
        }
    }

    /** The frames and their turns. */
    private static final class Film {
        private static final int FRAMES_TO_BEGIN = 3;
        private static final int ANCHOR_STEP = 3;
        private static final int KEY_STEP = 6;
        private static final int PACE = 10;
        private static final int FULL = 6;
        private static final int SPARSE = 1;

        private final Store store;
        private final int[] fates = new int[FRAMES];
        private int nextFrame = 0;
        private int beginTick = NONE;
        private int turnTick = NONE;
        private int shownCount = 0;

        Film(Store store) {
            this.store = store;
        }

        static int kind(int frame) {
            if (frame % KEY_STEP == 0) {
                return KEY;
            }
            return frame % ANCHOR_STEP == 0 ? STEP : BETWEEN;
        }

        static int needBefore(int frame) {
            int kind = kind(frame);
            if (kind == KEY) {
                return NONE;
            }
            return kind == STEP ? frame - ANCHOR_STEP : frame - frame % ANCHOR_STEP;
        }

        /** The last frame is a STEP, so there is always one behind a BETWEEN. */
        static int needBehind(int frame) {
            return kind(frame) == BETWEEN ? frame - frame % ANCHOR_STEP + ANCHOR_STEP : NONE;
        }

        void play(int tick) {
            if (beginTick == NONE && canBegin()) {
                beginTick = tick;
                turnTick = tick;
            }
            if (turnTick == tick) {
                giveTurn(tick);
            }
        }

        private boolean canBegin() {
            for (int frame = 0; frame < FRAMES_TO_BEGIN; frame++) {
                if (!store.holdsFrame(frame)) {
                    return false;
                }
            }
            return true;
        }

        private void giveTurn(int tick) {
            if (!isFrame(nextFrame)) {
                return;
            }
            int outcome = outcomeOf(nextFrame);
            fates[nextFrame] = outcome;
            if (outcome == SHOWN) {
                shownCount++;
            }
            nextFrame++;
            turnTick = nextFrame < FRAMES ? tick + pace() : NONE;
        }

        private int outcomeOf(int frame) {
            if (!store.holdsFrame(frame)) {
                return LACKING;
            }
            int before = needBefore(frame);
            int behind = needBehind(frame);
            boolean isServed = (before == NONE || wasShown(before)) && isWholeIfAny(behind);
            return isServed ? SHOWN : NEEDY;
        }

        private boolean wasShown(int frame) {
            return isFrame(frame) && fates[frame] == SHOWN;
        }

        private boolean isWholeIfAny(int frame) {
            return frame == NONE || store.holdsFrame(frame);
        }

        /** The next frame is already the one behind that which has just had its turn. */
        private int pace() {
            int ahead = wholeAhead();
            if (ahead >= FULL) {
                return PACE - 1;
            }
            return ahead <= SPARSE ? PACE + 1 : PACE;
        }

        int wholeAhead() {
            int many = 0;
            for (int frame = nextFrame; frame < FRAMES && store.holdsFrame(frame); frame++) {
                many++;
            }
            return many;
        }

        int countShowable() {
            int many = 0;
            for (int frame = 0; frame < nextFrame; frame++) {
                if (store.holdsFrame(frame) && isAnchorShowable(needBefore(frame))
                        && isAnchorShowable(needBehind(frame))) {
                    many++;
                }
            }
            return many;
        }

        /** A frame that is needed is a KEY, or a STEP that needs a KEY alone: no need lies deeper. */
        private boolean isAnchorShowable(int frame) {
            return frame == NONE || store.holdsFrame(frame) && isWholeIfAny(needBefore(frame));
        }

        int delay() {
            return turnTick == NONE ? 0 : turnTick - beginTick - PACE * nextFrame;
        }
    }
}
