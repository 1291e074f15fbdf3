import java.util.Random;

/** All promises: runs of 512 calls, wrong ones among them, compared with the model call by call. */
public final class ModelTest {
    private static final int RUNS = 200;
    private static final int CALLS = 512;
    private static final int[] ODD = {Integer.MIN_VALUE, -1, 0, 31, 33, 51, 99, 100, 101, 299, 300, Integer.MAX_VALUE};

    private static final Check CHECK = new Check("ModelTest");

    public static void main(String[] args) {
        int ended = 0;
        int shown = 0;
        for (int run = 0; run < RUNS; run++) {
            FilmPlayer x = new ModelTest(run).play();
            ended += x.next() == FilmPlayer.NONE ? 1 : 0;
            shown += x.shown();
        }
        System.out.println("ModelTest: " + ended + " films ended, " + shown + " frames were shown");
        CHECK.due("enough films ended", ended > RUNS / 20, true);
        CHECK.due("enough frames were shown", shown > 10 * RUNS, true);
        CHECK.end();
    }

    private final int run;
    private final Random random;
    private final FilmPlayer x = new FilmPlayer();
    private final Model model = new Model();
    // how a run goes: how far it jumps in time, how much it loses, how often it is wrong
    private final int stride;
    private final int losing;
    private final int wrongness;
    private int ahead = 0;

    private ModelTest(int run) {
        this.run = run;
        random = new Random(run);
        stride = new int[] {2, 5, 12, 30, 100}[run % 5];
        losing = new int[] {0, 1, 3, 10}[run / 5 % 4];
        wrongness = run % 3 == 0 ? 10 : 0;
    }

    private FilmPlayer play() {
        for (int k = 0; k < CALLS; k++) {
            String call = one(k);
            CHECK.due("run " + run + ", call " + k + ", " + call + ": picture", Picture.of(x), model.picture());
        }
        return x;
    }

    private String one(int k) {
        if (random.nextInt(100) < wrongness) {
            return ask(random.nextInt(10));
        }
        int kind = random.nextInt(100);
        if (kind < 40) {
            return ask(2);
        }
        if (kind < 75) {
            return ask(random.nextBoolean() ? 0 : 1);
        }
        if (kind < 77) {
            return random.nextInt(4) == 0 ? ask(4) : ask(3);
        }
        return ask(3 + random.nextInt(7));
    }

    private String ask(int call) {
        boolean isOdd = random.nextInt(100) < wrongness;
        int a = isOdd ? odd() : 0;
        int b = isOdd ? odd() : 0;
        switch (call) {
            case 0: {
                int packet = isOdd ? a : somePacket();
                return same("arrive(" + packet + ")", () -> x.arrive(packet), () -> model.arrive(packet));
            }
            case 1: {
                int many = isOdd ? b : 1 + random.nextInt(random.nextInt(4) == 0 ? 30 : 9);
                int first = isOdd ? a : Math.max(0, Math.min(somePacket(), 300 - many));
                ahead = isOdd ? ahead : first + many;
                return same("arriveRow(" + first + ", " + many + ")",
                    () -> x.arriveRow(first, many), () -> model.arriveRow(first, many));
            }
            case 2: {
                int ticks = isOdd ? a : 1 + random.nextInt(stride);
                return same("advance(" + ticks + ")", () -> x.advance(ticks), () -> model.advance(ticks));
            }
            case 3: {
                if (random.nextInt(10) >= losing) {
                    return "nothing";
                }
                int[] s = someSettings(isOdd);
                return same("set(" + s[0] + ", " + s[1] + ", " + s[2] + ", " + s[3] + ")", () -> {
                    x.set(s[0], s[1], s[2], s[3]);
                    return 0;
                }, () -> {
                    model.set(s[0], s[1], s[2], s[3]);
                    return 0;
                });
            }
            case 4:
                return losing < 3 ? "nothing" : same("reset()", () -> x.reset(), () -> model.reset());
            case 5: {
                int packet = isOdd ? a : random.nextInt(300);
                return same("has(" + packet + ")", () -> x.has(packet) ? 1 : 0, () -> model.has(packet) ? 1 : 0);
            }
            case 6: {
                int place = isOdd ? a : random.nextInt(40);
                return same("askedAt(" + place + ")", () -> x.askedAt(place), () -> model.askedAt(place));
            }
            case 7: {
                int frame = isOdd ? a : random.nextInt(100);
                boolean isBehind = random.nextBoolean();
                return same("need(" + frame + ", " + isBehind + ")",
                    () -> x.need(frame, isBehind), () -> model.need(frame, isBehind));
            }
            case 8: {
                int frame = isOdd ? a : random.nextInt(100);
                return same("kindOf(" + frame + ")", () -> x.kindOf(frame), () -> model.kindOf(frame));
            }
            default: {
                int frame = isOdd ? a : random.nextInt(100);
                same("isWhole(" + frame + ")", () -> x.isWhole(frame) ? 1 : 0, () -> model.isWhole(frame) ? 1 : 0);
                return same("fate(" + frame + ")", () -> x.fate(frame), () -> model.fate(frame));
            }
        }
    }

    private int odd() {
        return ODD[random.nextInt(ODD.length)];
    }

    /** Mostly the one that is due, at times one that was lost, seldom any. */
    private int somePacket() {
        int kind = random.nextInt(20);
        if (kind == 0 && losing > 1) {
            return random.nextInt(300);
        }
        if (kind < 8 && x.asked() > 0) {
            return x.askedAt(random.nextInt(x.asked()));
        }
        if (random.nextInt(20) < losing) {
            ahead++;
        }
        int packet = Math.min(ahead, 299);
        ahead = packet + 1;
        return packet;
    }

    private int[] someSettings(boolean isOdd) {
        int[] settings = {1 + random.nextInt(32), 1 + random.nextInt(12), 1 + random.nextInt(8), 1 + random.nextInt(32)};
        if (random.nextInt(4) == 0) {
            settings[1] = 1 + random.nextInt(32);
            settings[2] = 1 + random.nextInt(50);
        }
        if (isOdd) {
            settings[random.nextInt(4)] = odd();
        }
        return settings;
    }

    /** An answer, or what was thrown. */
    private interface Answer {
        int get();
    }

    private static String told(Answer answer) {
        try {
            return "" + answer.get();
        } catch (RuntimeException e) {
            return e.getClass().getSimpleName();
        }
    }

    private String same(String call, Answer got, Answer want) {
        CHECK.due("run " + run + ", " + call, told(got), told(want));
        return call;
    }
}
