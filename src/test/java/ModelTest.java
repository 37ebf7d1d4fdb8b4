import java.util.Random;

/** Runs of 512 calls at most, drawn by fixed seeds: MixDesk must answer each as the slow Model does. */
public final class ModelTest {
    private static final int[] WILD = {Integer.MIN_VALUE, -100001, -1000, -2, -1, 0, 1, 9, 12, 16, 64, 65, 257, 1001,
        10001, 100001, 1000001, Integer.MAX_VALUE};

    private static final int MOST_CALLS = 512;
    /** The most calls that one step of a run makes. */
    private static final int STEP_CALLS = 72;

    private final Check check = new Check();
    private Random random;
    private MixDesk desk;
    private Model model;
    private int songs;
    private int style;
    private int focus;

    public static void main(String[] args) {
        int runs = args.length > 1 ? Integer.parseInt(args[1]) : 400;
        int seed = args.length > 2 ? Integer.parseInt(args[2]) : 0;
        ModelTest test = new ModelTest();
        for (int run = 0; run < runs && test.check.wrong() == 0; run++) {
            test.run(seed + run);
        }
        test.check.end();
    }

    private void run(int seed) {
        check.title("seed " + seed);
        random = new Random(seed);
        desk = new MixDesk();
        model = new Model();
        songs = seed % 10 == 0 ? 12 : 1 + random.nextInt(6);
        style = random.nextInt(4);
        focus = random.nextInt(4);
        lastTick = 0;
        int before = check.looked();
        for (int step = 0; check.looked() - before <= MOST_CALLS - STEP_CALLS; step++) {
            int kind = step < 2 * songs ? step % 2 : drawKind();
            if (kind < 12) {
                tell(kind);
            } else if (kind < 20) {
                ask(kind);
            } else if (kind < 27) {
                beats(kind);
            } else {
                lead(kind);
            }
        }
    }

    /** A run asks for much of one part, so that its 512 calls lead deep into it, and for something of all. */
    private int drawKind() {
        if (focus == 0 || random.nextInt(3) == 0) {
            return random.nextInt(40);
        }
        switch (focus) {
            case 1: return random.nextInt(20);
            case 2: return 20 + random.nextInt(7);
            default: return random.nextInt(3) == 0 ? random.nextInt(12) : 27 + random.nextInt(13);
        }
    }

    /** Mostly low .. high, now and then an edge or something that can't be. */
    private int pick(int low, int high) {
        switch (random.nextInt(60)) {
            case 0: return WILD[random.nextInt(WILD.length)];
            case 1: return low;
            case 2: return high;
            case 3: return low - 1;
            case 4: return high + 1;
            default: return low + random.nextInt(high - low + 1);
        }
    }

    private int pickSong() {
        return random.nextInt(50) == 0 ? pick(0, 11) : random.nextInt(songs);
    }

    private int pickN() {
        return random.nextInt(3) == 0 ? pick(1, 8) : 1 + random.nextInt(3);
    }

    private void tell(int kind) {
        int s = pickSong();
        switch (kind) {
            case 0: case 2: {
                int songKind = style < 3 && random.nextInt(4) > 0 ? style : pick(0, 2);
                int bars = random.nextInt(3) == 0 ? pick(2, 64) : pick(2, 12);
                int step = random.nextInt(4) == 0 ? pick(20, 400) : pick(95, 110);
                int more = songKind == 1 ? (random.nextBoolean() ? pick(0, 8) : pick(0, step - 10 < 0 ? 0 : step - 10))
                        : random.nextBoolean() ? pick(-3, 3) : pick(-20, 20);
                check.due("song(" + s + ", " + songKind + ", " + bars + ", " + step + ", " + more + ")",
                        desk.song(s, songKind, bars, step, more), model.song(s, songKind, bars, step, more));
                return;
            }
            case 1: case 3: case 4: {
                int key = pick(0, 23);
                int heat = pick(0, 9);
                int phrase = random.nextInt(3) == 0 ? pick(1, 16) : pick(1, 4);
                check.due("about", desk.about(s, key, heat, phrase), model.about(s, key, heat, phrase));
                return;
            }
            case 5: case 6: case 7: {
                int bar = pick(0, 12);
                int count = random.nextBoolean() ? 4 : pick(1, 4);
                check.due("bar", desk.bar(s, bar, count), model.bar(s, bar, count));
                return;
            }
            case 8: case 9: case 10: {
                int a = pick(0, 8);
                int b = random.nextInt(8) == 0 ? pick(0, 30) : a + random.nextInt(4);
                int n = pick(1, 4);
                check.due("loop", desk.loop(s, a, b, n), model.loop(s, a, b, n));
                return;
            }
            default:
                if (random.nextInt(3) == 0) {
                    check.due("drop", desk.drop(s), model.drop(s));
                }
        }
    }

    private void ask(int kind) {
        int s = pickSong();
        switch (kind % 4) {
            case 0: {
                int what = pick(0, 9);
                check.due("of " + s + " " + what, desk.of(s, what), model.of(s, what));
                return;
            }
            case 1: {
                int k = random.nextInt(4) == 0 ? pick(0, 256) : pick(0, 40);
                check.due("beat " + s + " " + k, desk.beat(s, k), model.beat(s, k));
                return;
            }
            case 2: {
                int p = random.nextInt(4) == 0 ? pick(0, 63) : pick(0, 14);
                int what = pick(0, 2);
                check.due("played " + s + " " + p + " " + what, desk.played(s, p, what), model.played(s, p, what));
                return;
            }
            default:
                check.due("length " + s, desk.length(s), model.length(s));
        }
    }

    private int lastTick = 0;

    private void beats(int kind) {
        switch (kind) {
            case 20: case 21: case 22: case 23: {
                for (int i = 0; i < 3; i++) {
                    int tick = random.nextInt(6) == 0 ? lastTick + pick(0, 400)
                            : lastTick + 100 * random.nextInt(3) / (1 + random.nextInt(2)) + random.nextInt(12) - 4;
                    if (random.nextInt(60) == 0) {
                        tick = pick(0, 1000000);
                    }
                    int due = model.stroke(tick);
                    lastTick = due > 0 ? tick : lastTick;
                    check.due("stroke " + tick, desk.stroke(tick), due);
                }
                return;
            }
            case 24:
                if (random.nextInt(3) == 0) {
                    lastTick = 0;
                    check.due("clear", desk.clear(), model.clear());
                }
                return;
            default: {
                int gap = random.nextBoolean() ? pick(10, 1000) : 50 * (1 + random.nextInt(3));
                int miss = random.nextInt(4) == 0 ? pick(0, 10000) : pick(0, 40);
                int skip = random.nextInt(4) == 0 ? pick(0, 10000) : pick(0, 60);
                check.due("find " + gap + " " + miss + " " + skip, desk.find(gap, miss, skip), model.find(gap, miss, skip));
                boolean all = random.nextInt(4) == 0;
                for (int i = 0; i < (all ? 62 : 10); i++) {
                    int k = all ? i - 1 : random.nextBoolean() ? pick(0, 8) : pick(0, 59);
                    check.due("found " + k, desk.found(k), model.found(k));
                }
            }
        }
    }

    private void lead(int kind) {
        int a = pickSong();
        int b = pickSong();
        int n = pickN();
        switch (kind) {
            case 27: {
                int bound = random.nextBoolean() ? pick(20, 200) : pick(0, 1000);
                int key = random.nextBoolean() ? 0 : pick(0, 1000);
                int heat = random.nextBoolean() ? 0 : pick(0, 1000);
                check.due("costs", desk.costs(bound, key, heat), model.costs(bound, key, heat));
                return;
            }
            case 28: case 29: case 30: {
                int p = pick(0, 8);
                int q = pick(0, 8);
                boolean phrases = random.nextInt(3) == 0;
                check.due("join " + a + " " + b + " " + n + " " + p + " " + q, desk.join(a, b, n, p, q, phrases),
                        model.join(a, b, n, p, q, phrases));
                for (int i = 0; i < 24; i++) {
                    int j = random.nextBoolean() ? pick(0, 4 * Math.max(1, Math.min(n, 8))) : pick(0, 33);
                    int what = pick(0, 2);
                    check.due("meets " + j + " " + what, desk.meets(j, what), model.meets(j, what));
                }
                return;
            }
            case 31: case 32: case 33:
                for (int what = -1; what <= 3; what++) {
                    check.due("best " + a + " " + b + " " + n + " " + what, desk.best(a, b, n, what), model.best(a, b, n, what));
                }
                return;
            case 34: case 35: {
                int how = pick(0, 2);
                check.due("must", desk.must(a, b, how), model.must(a, b, how));
                return;
            }
            case 36: {
                int slip = random.nextBoolean() ? pick(-100, 100) : pick(-100000, 100000);
                int step = pick(20, 400);
                check.due("mend " + slip + " " + step, desk.mend(slip, step), model.mend(slip, step));
                return;
            }
            default:
                if (songs < 8 || random.nextInt(8) == 0) {
                    check.due("night " + n, desk.night(n), model.night(n));
                    for (int i = -1; i <= 12; i++) {
                        check.due("order " + i, desk.order(i), model.order(i));
                    }
                }
        }
    }
}
