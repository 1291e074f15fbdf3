/** Players in a known state, and short ways to bring them further. */
final class Players {
    private Players() {
    }

    /** The ring holds 32, and the driver takes all at the very tick; it stays JOINED below 32. */
    static FilmPlayer quick() {
        FilmPlayer x = new FilmPlayer();
        x.set(32, 1, 50, 32);
        return x;
    }

    /** A quick one at the tick 1, whose film began at the tick 0 with so many packets, 9 to 30. */
    static FilmPlayer begun(int packets) {
        FilmPlayer x = quick();
        x.arriveRow(0, packets);
        x.advance(1);
        return x;
    }

    /** One at the tick 1 that is POLLED, has the packet 0 alone, and goes back to a patience of 50. */
    static FilmPlayer polled() {
        FilmPlayer x = new FilmPlayer();
        x.set(32, 1, 50, 1);
        x.arrive(0);
        x.advance(1);
        x.set(32, 32, 50, 32);
        return x;
    }

    /** One whose frame f is whole from the tick 0 on if the sign f is W; up to ten of them are. */
    static FilmPlayer withFrames(String frames) {
        FilmPlayer x = quick();
        for (int frame = 0; frame < frames.length(); frame++) {
            if (frames.charAt(frame) == 'W') {
                x.arriveRow(3 * frame, 3);
            }
        }
        x.advance(1);
        return x;
    }

    /** Lets ticks pass up to that one; a player that does not get there is left where it is. */
    static void goTo(FilmPlayer x, int tick) {
        int left = tick - x.tick();
        while (left > 0) {
            int ticks = Math.min(100, left);
            x.advance(ticks);
            left -= ticks;
        }
    }

    /** The fates of the first frames: T for TO_COME, S for SHOWN, L for LACKING, N for NEEDY. */
    static String fates(FilmPlayer x, int many) {
        StringBuilder text = new StringBuilder();
        for (int frame = 0; frame < many; frame++) {
            text.append("TSLN".charAt(x.fate(frame)));
        }
        return text.toString();
    }
}
