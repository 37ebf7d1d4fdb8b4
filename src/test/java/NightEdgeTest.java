import java.util.Arrays;

/** The boundary cases of NIGHTS, sentence by sentence: Terms IV and promises 19 to 22. The titles are the document's words. */
public final class NightEdgeTest {
    private static final Check check = new Check();
    private static final Refused refused = new Refused(check);

    public static void main(String[] args) {
        mustSongs();
        mustUnlikeOnes();
        mustHow();
        mustNeither();
        mustIsTold();
        mustAtOnceBehind();
        mustOfAllPairs();
        mustNotOfAllPairs();
        nightLength();
        nightNoSongs();
        nightOneSong();
        nightTwoSongs();
        nightTwelveSongs();
        nightThereIsNone();
        nightMustsThatCannotBe();
        nightLeastCost();
        nightLeastSongFirst();
        nightEachOnce();
        nightGrowsAndShrinks();
        nightJoinsNeedNotFit();
        nightGreatestCost();
        orderNoneYet();
        orderNumbers();
        orderLatestTold();
        mendSlip();
        mendStep();
        mendNoSlip();
        mendNothingCanBeBent();
        mendBars();
        mendFloor();
        check.end();
    }

    private static void dueNight(String call, MixDesk x, int n, int cost, int... order) {
        check.due(call, x.night(n), cost);
        for (int i = 0; i < order.length; i++) {
            check.due(call + ", order " + i, x.order(i), order[i]);
        }
        check.due(call + ", behind the last one", x.order(order.length), -1);
    }

    // ---- promise 19

    private static void mustSongs() {
        MixDesk x = check.desk("19: false when there are no such two");
        x.song(0, 0, 4, 100, 0);
        x.song(11, 0, 4, 100, 0);
        check.due("11 behind 0", x.must(0, 11, 1), true);
        check.due("0 behind 11", x.must(11, 0, 2), true);
        for (int how = 0; how <= 2; how++) {
            int asked = how;
            for (int s : Refused.outside(0, 11)) {
                refused.isFalse("behind " + s, d -> d.must(s, 1, asked));
                refused.isFalse(s + " behind", d -> d.must(1, s, asked));
            }
            refused.isFalse("behind one that is not there", d -> d.must(4, 1, asked));
            refused.isFalse("one that is not there behind", d -> d.must(1, 4, asked));
            refused.isFalse("neither is there", d -> d.must(4, 5, asked));
        }
        MixDesk y = check.deskOf("19: false when there are no such two, and nothing is kept for them", 100, 100);
        check.due("one is not there", y.must(2, 0, 1), false);
        y.song(2, 0, 8, 100, 0);
        dueNight("none is told of the one that comes then", y, 1, 0, 0, 1, 2);
    }

    private static void mustUnlikeOnes() {
        check.desk("19: no such two: one and itself");
        for (int s = 0; s < 4; s++) {
            for (int how = 0; how <= 2; how++) {
                int song = s;
                int asked = how;
                refused.isFalse(s + " behind itself", d -> d.must(song, song, asked));
            }
        }
    }

    private static void mustHow() {
        check.desk("19: how 1 MUST, 2 MUST NOT, 0 neither");
        for (int how : Refused.outside(0, 2)) {
            refused.isFalse("how " + how, d -> d.must(0, 2, how));
            refused.isFalse("how " + how + " of two that MUST", d -> d.must(3, 1, how));
            refused.isFalse("how " + how + " of two that MUST NOT", d -> d.must(2, 3, how));
        }
        for (int how = 0; how <= 2; how++) {
            MixDesk x = check.deskOf("19: how " + how, 100, 100, 100);
            check.due("how " + how, x.must(0, 2, how), true);
            int[] due = how == 1 ? new int[] {0, 2, 1} : new int[] {0, 1, 2};
            dueNight("night", x, 1, 0, due);
            check.due("how " + how, x.must(0, 1, how), true);
            check.due("night", x.night(1), how == 1 ? -2 : 0);
            check.due("its first one", x.order(0), how == 2 ? 1 : 0);
        }
    }

    private static void mustNeither() {
        MixDesk x = check.deskOf("19: 0 neither", 100, 100);
        check.due("nothing was told", x.must(0, 1, 0), true);
        dueNight("neither", x, 1, 0, 0, 1);
        x.must(1, 0, 1);
        dueNight("must", x, 1, 0, 1, 0);
        check.due("neither", x.must(1, 0, 0), true);
        dueNight("neither", x, 1, 0, 0, 1);
        x.must(0, 1, 2);
        dueNight("must not", x, 1, 0, 1, 0);
        check.due("neither", x.must(0, 1, 0), true);
        dueNight("neither", x, 1, 0, 0, 1);
        check.due("neither again", x.must(0, 1, 0), true);
        dueNight("neither", x, 1, 0, 0, 1);
    }

    private static void mustIsTold() {
        MixDesk x = check.deskOf("19: of one pair the latest that was told", 100, 100);
        x.must(1, 0, 1);
        x.must(1, 0, 2);
        dueNight("must, then must not", x, 1, 0, 0, 1);
        x.must(1, 0, 1);
        dueNight("must not, then must", x, 1, 0, 1, 0);
        x.must(0, 1, 1);
        check.due("the other way is another pair", x.night(1), -2);
    }

    private static void mustAtOnceBehind() {
        MixDesk x = check.deskOf("19: SONG b comes at once behind a", 100, 104, 108);
        dueNight("none", x, 1, 32, 0, 1, 2);
        x.must(0, 2, 1);
        dueNight("not with 1 between", x, 1, 48, 0, 2, 1);
        x.must(0, 2, 2);
        x.must(2, 0, 2);
        dueNight("with 1 between it is not at once", x, 1, 32, 0, 1, 2);
    }

    private static void mustOfAllPairs() {
        MixDesk x = check.desk("IV: each pair that MUST is side by side so: eleven of them");
        for (int s = 0; s < 12; s++) {
            x.song(s, 0, 4, 100, 0);
        }
        for (int s = 11; s > 0; s--) {
            x.must(s, s - 1, 1);
        }
        dueNight("backward", x, 4, 0, 11, 10, 9, 8, 7, 6, 5, 4, 3, 2, 1, 0);
        x.must(0, 11, 1);
        check.due("a ring has no first one", x.night(4), -2);
        x.must(6, 5, 0);
        dueNight("opened again", x, 4, 0, 5, 4, 3, 2, 1, 0, 11, 10, 9, 8, 7, 6);
    }

    private static void mustNotOfAllPairs() {
        MixDesk x = check.desk("IV: none that MUST NOT: all but one way");
        for (int s = 0; s < 12; s++) {
            x.song(s, 0, 4, 100, 0);
        }
        for (int a = 0; a < 12; a++) {
            for (int b = 0; b < 12; b++) {
                if (a != b && b != (a + 5) % 12) {
                    check.due("must not", x.must(a, b, 2), true);
                }
            }
        }
        dueNight("by fives", x, 4, 0, 0, 5, 10, 3, 8, 1, 6, 11, 4, 9, 2, 7);
        x.must(3, 8, 2);
        dueNight("behind the one that is cut", x, 4, 0, 8, 1, 6, 11, 4, 9, 2, 7, 0, 5, 10, 3);
        x.must(7, 0, 2);
        check.due("cut twice", x.night(4), -2);
    }

    // ---- promise 20

    private static void nightLength() {
        MixDesk x = check.deskOf("20: n BARS long; -1 n can't be", 100, 104);
        for (int n = 1; n <= 8; n++) {
            dueNight("n " + n, x, n, 16 * n, 0, 1);
        }
        for (int n : Refused.outside(1, 8)) {
            refused.answers("n " + n, d -> d.night(n), -1);
        }
        refused.answers("n 0 - 8", d -> d.night(-8), -1);
    }

    private static void nightNoSongs() {
        check.desk("20: -1 there are no SONGS");
        Refused none = new Refused(check, d -> { });
        Refused gone = new Refused(check, d -> {
            d.song(0, 0, 4, 100, 0);
            d.night(1);
            d.drop(0);
        });
        for (int n : new int[] {0, 1, 8, 9}) {
            none.answers("none yet", d -> d.night(n), -1);
            gone.answers("none any more", d -> d.night(n), -1);
        }
    }

    private static void nightOneSong() {
        for (int s : new int[] {0, 11}) {
            MixDesk x = check.desk("20: its cost (0 of one SONG)");
            x.song(s, 0, 2, 100, 0);
            dueNight("n 1", x, 1, 0, s);
            dueNight("n 8, longer than the song", x, 8, 0, s);
            x.bar(s, 0, 1);
            x.bar(s, 1, 1);
            x.about(s, 23, 9, 16);
            dueNight("all broken", x, 1, 0, s);
            check.due("n 0", x.night(0), -1);
            check.due("n 9", x.night(9), -1);
        }
    }

    private static void nightTwoSongs() {
        MixDesk x = check.deskOf("20: THE NIGHT of two", 108, 100);
        dueNight("0 into 1", x, 1, 32, 0, 1);
        x.costs(79, 10, 5);
        // 8 1000 / 100 is above BOUND, 8 1000 / 108 is not
        dueNight("1 into 0 alone", x, 1, 32, 1, 0);
        x.costs(73, 10, 5);
        check.due("neither", x.night(1), -2);
    }

    private static void nightTwelveSongs() {
        MixDesk x = check.desk("IV: of all SONGS that are there: twelve");
        for (int s = 0; s < 12; s++) {
            x.song(s, 0, 8, s % 2 == 0 ? 100 + s : 112 + s, 0);
        }
        // 100 102 .. 110, then 113 115 .. 123
        dueNight("upward", x, 1, 4 * 23, 0, 2, 4, 6, 8, 10, 1, 3, 5, 7, 9, 11);
        x.song(11, 0, 8, 99, 0);
        dueNight("a lesser one last", x, 1, 4 * 22, 9, 7, 5, 3, 1, 10, 8, 6, 4, 2, 0, 11);
        x.song(11, 0, 8, 400, 0);
        check.due("one that none can be led into", x.night(1), -2);
        x.drop(11);
        dueNight("eleven", x, 1, 4 * 21, 0, 2, 4, 6, 8, 10, 1, 3, 5, 7, 9);
    }

    private static void nightThereIsNone() {
        check.desk("20: -2 there is none");
        new Refused(check, d -> {
            d.song(0, 0, 8, 100, 0);
            d.song(1, 0, 8, 104, 0);
            d.night(1);
            d.song(2, 0, 8, 150, 0);
        }).answers("one is too fast for the others", d -> d.night(1), -2);
        new Refused(check, d -> {
            d.song(0, 0, 8, 100, 0);
            d.song(1, 0, 7, 100, 0);
            d.night(7);
        }).answers("one is too short", d -> d.night(8), -2);
        new Refused(check, d -> {
            d.song(0, 0, 8, 100, 0);
            d.song(1, 0, 8, 100, 0);
            d.night(8);
            d.bar(1, 0, 3);
            d.about(1, 0, 0, 8);
        }).answers("no PHRASE begins in one", d -> d.night(1), -2);
    }

    private static void nightMustsThatCannotBe() {
        int[][] musts = {{0, 1, 0, 2}, {0, 2, 1, 2}, {0, 1, 1, 0}};
        String[] why = {"two at once behind one", "one at once behind two", "each behind the other"};
        for (int i = 0; i < musts.length; i++) {
            MixDesk x = check.deskOf("IV: each pair that MUST: " + why[i], 100, 100, 100);
            x.must(musts[i][0], musts[i][1], 1);
            check.due("one", x.night(1), 0);
            x.must(musts[i][2], musts[i][3], 1);
            check.due("both", x.night(1), -2);
        }
        MixDesk x = check.deskOf("IV: from each to the next one there is THE JOIN, also where it MUST", 100, 104, 150);
        x.must(0, 2, 1);
        check.due("too far", x.night(1), -2);
        MixDesk y = check.deskOf("IV: a ring beside others", 100, 100, 100, 100);
        y.must(1, 2, 1);
        y.must(2, 3, 1);
        dueNight("a chain", y, 1, 0, 0, 1, 2, 3);
        y.must(3, 1, 1);
        check.due("a ring", y.night(1), -2);
    }

    private static void nightLeastCost() {
        MixDesk x = check.deskOf("IV: THE NIGHT: the least cost", 104, 100, 108);
        dueNight("upward, as 1 is less than 2", x, 1, 32, 1, 0, 2);
        x.about(1, 0, 9, 4);
        // 1 beside 0 costs 45 more; between 0 and 2 as well as at an end
        dueNight("heat", x, 1, 32 + 45, 1, 0, 2);
        x.about(2, 0, 9, 4);
        dueNight("heats beside one another", x, 1, 16 + 45 + 32, 0, 1, 2);
        x.about(0, 0, 9, 4);
        dueNight("all as hot", x, 1, 32, 1, 0, 2);
    }

    private static void nightLeastSongFirst() {
        MixDesk x = check.deskOf("IV: of several the order that has the least SONG where they first differ", 100, 100, 100, 100);
        dueNight("all alike", x, 1, 0, 0, 1, 2, 3);
        x.must(0, 1, 2);
        dueNight("the second one", x, 1, 0, 0, 2, 1, 3);
        x.must(2, 1, 2);
        dueNight("the third one", x, 1, 0, 0, 2, 3, 1);
        x.must(0, 2, 2);
        x.must(0, 3, 2);
        dueNight("the first one", x, 1, 0, 1, 2, 3, 0);
        MixDesk y = check.desk("IV: numbers with gaps between them");
        for (int s : new int[] {11, 3, 7}) {
            y.song(s, 0, 4, 100, 0);
        }
        dueNight("all alike", y, 1, 0, 3, 7, 11);
    }

    private static void nightEachOnce() {
        MixDesk x = check.deskOf("IV: all SONGS that are there, each once", 100, 104, 108, 112);
        dueNight("four", x, 1, 48, 0, 1, 2, 3);
        x.drop(1);
        dueNight("three", x, 1, 48, 0, 2, 3);
        x.drop(3);
        dueNight("two", x, 1, 32, 0, 2);
        x.song(1, 0, 8, 104, 0);
        dueNight("three", x, 1, 32, 0, 1, 2);
    }

    private static void nightGrowsAndShrinks() {
        MixDesk x = check.desk("IV: all SONGS that are there: from one to twelve and back");
        int[] upward = {0, 1, 2, 3, 4, 5, 6, 7, 8, 9, 10, 11};
        for (int s = 0; s < 12; s++) {
            x.song(s, 0, 4, 100 + s, 0);
            dueNight("up to " + s, x, 1, 4 * s, Arrays.copyOf(upward, s + 1));
        }
        int[] downward = {11, 10, 9, 8, 7, 6, 5, 4, 3, 2, 1, 0};
        for (int s = 1; s < 12; s++) {
            x.must(s, s - 1, 1);
        }
        for (int gone = 0; gone < 11; gone++) {
            x.drop(gone);
            dueNight("down to " + (gone + 1), x, 1, 4 * (10 - gone), Arrays.copyOf(downward, 11 - gone));
        }
    }

    private static void nightJoinsNeedNotFit() {
        MixDesk x = check.desk("IV: p, q need not fit one behind the other");
        // SONG 1 is led into at its end and out of at its beginning
        x.song(0, 0, 8, 107, 0);
        x.song(1, 2, 8, 100, 4);
        x.song(2, 0, 8, 100, 0);
        x.costs(80, 0, 0);
        x.about(1, 0, 0, 1);
        x.must(0, 1, 1);
        int into = x.best(0, 1, 1, 0);
        int on = x.best(1, 2, 1, 0);
        check.due("into 1 at its end", x.best(0, 1, 1, 2), 7);
        check.due("out of it at its beginning", x.best(1, 2, 1, 1), 0);
        dueNight("the sum of both", x, 1, into + on, 0, 1, 2);
    }

    private static void nightGreatestCost() {
        MixDesk x = check.desk("20: its cost, the greatest");
        for (int s = 0; s < 12; s++) {
            x.song(s, 0, 8, s % 2 == 0 ? 400 : 200, 0);
            x.about(s, s % 2 == 0 ? 0 : 18, s % 2 == 0 ? 0 : 9, 4);
        }
        x.costs(1000, 1000, 1000);
        dueNight("from the one half into the other", x, 8, 6400 + 7000 + 9000, 0, 2, 4, 6, 8, 10, 1, 3, 5, 7, 9, 11);
        for (int s = 0; s < 11; s++) {
            x.must(s, s + 1, 1);
        }
        dueNight("to and fro", x, 8, 11 * 22400, 0, 1, 2, 3, 4, 5, 6, 7, 8, 9, 10, 11);
    }

    // ---- promise 21

    private static void orderNoneYet() {
        check.desk("21: NONE when there is none such: none was told");
        Refused none = new Refused(check, d -> {
            d.song(0, 0, 8, 100, 0);
            d.song(1, 0, 8, 150, 0);
        });
        for (int i : new int[] {0, 1, -1, Integer.MIN_VALUE, Integer.MAX_VALUE}) {
            none.isNone("order " + i, d -> d.order(i));
        }
        MixDesk x = check.deskOf("21: a night that is none is not told", 100, 150);
        check.due("none", x.night(1), -2);
        check.due("refused", x.night(9), -1);
        check.due("order 0", x.order(0), -1);
    }

    private static void orderNumbers() {
        check.desk("21: SONG i; NONE when there is none such");
        for (int i : Refused.outside(0, 3)) {
            refused.isNone("order " + i, d -> d.order(i));
        }
        MixDesk x = new MixDesk();
        for (int s = 0; s < 12; s++) {
            x.song(s, 0, 4, 100, 0);
        }
        x.night(1);
        check.due("order -1", x.order(-1), -1);
        check.due("order 0", x.order(0), 0);
        check.due("order 11", x.order(11), 11);
        check.due("order 12", x.order(12), -1);
    }

    private static void orderLatestTold() {
        MixDesk x = check.deskOf("21: of the latest NIGHT that was told", 100, 104, 108);
        dueNight("three", x, 1, 32, 0, 1, 2);
        x.must(2, 1, 1);
        check.due("as told", x.order(1), 1);
        dueNight("the latest", x, 1, 32, 2, 1, 0);
        check.due("refused", x.night(0), -1);
        check.due("refused", x.night(9), -1);
        x.must(0, 2, 2);
        x.must(1, 0, 2);
        check.due("none", x.night(1), -2);
        check.due("as told", x.order(0) * 100 + x.order(1) * 10 + x.order(2), 210);
        x.drop(2);
        x.drop(1);
        check.due("as told", x.order(1), 1);
        dueNight("one", x, 1, 0, 0);
        x.drop(0);
        check.due("no songs", x.night(1), -1);
        check.due("as told", x.order(0), 0);
        check.due("as told", x.order(1), -1);
    }

    // ---- promise 22

    private static void mendSlip() {
        MixDesk x = check.desk("22: A slip by so many ticks (-100000 .. 100000)");
        // 8 ticks a BEAT of 100, 32 a BAR
        for (int slip : new int[] {100000, 99999}) {
            check.due("slip " + slip, x.mend(slip, 100), 3125);
            check.due("slip " + -slip, x.mend(-slip, 100), 3125);
        }
        check.due("slip 1", x.mend(1, 100), 1);
        check.due("slip -1", x.mend(-1, 100), 1);
        for (int slip : Refused.outside(-100000, 100000)) {
            refused.isNone("slip " + slip, d -> d.mend(slip, 100));
        }
    }

    private static void mendStep() {
        MixDesk x = check.desk("22: at step (20 .. 400) ticks a BEAT");
        check.due("step 20", x.mend(100, 20), 25);
        check.due("step 400", x.mend(100, 400), 1);
        for (int step : Refused.outside(20, 400)) {
            refused.isNone("step " + step, d -> d.mend(100, step));
            refused.isNone("step " + step + " without a slip", d -> d.mend(0, step));
        }
        refused.isNone("neither can be", d -> d.mend(100001, 19));
    }

    private static void mendNoSlip() {
        MixDesk x = check.desk("22: (0 without a slip)");
        for (int bound : new int[] {0, 49, 80, 1000}) {
            x.costs(bound, 10, 5);
            check.due("at 20", x.mend(0, 20), 0);
            check.due("at 400", x.mend(0, 400), 0);
        }
    }

    private static void mendNothingCanBeBent() {
        check.desk("22: NONE when there is a slip and nothing can be bent");
        // BOUND, a step of which nothing can be bent, the least one of which one tick can
        int[][] due = {{49, 20, 21}, {47, 21, 22}, {3, 333, 334}, {10, 99, 100}};
        for (int[] row : due) {
            Refused bound = new Refused(check, d -> d.costs(row[0], 10, 5));
            MixDesk x = check.desk("22: NONE when there is a slip and nothing can be bent: BOUND " + row[0]);
            x.costs(row[0], 10, 5);
            for (int slip : new int[] {1, -1, 100000, -100000}) {
                bound.isNone("slip " + slip, d -> d.mend(slip, row[1]));
                check.due("slip " + slip, x.mend(slip, row[2]), (Math.abs(slip) + 3) / 4);
            }
        }
        Refused zero = new Refused(check, d -> d.costs(0, 10, 5));
        zero.isNone("BOUND 0", d -> d.mend(1, 400));
        MixDesk x = check.desk("22: BOUND 50 bends 20 by 1");
        x.costs(50, 10, 5);
        check.due("a slip of 5", x.mend(5, 20), 2);
    }

    private static void mendBars() {
        MixDesk x = check.desk("22: how many BARS of 4 BEATS it takes");
        int[][] due = {{1, 1}, {31, 1}, {32, 1}, {33, 2}, {63, 2}, {64, 2}, {65, 3}, {96, 3}, {97, 4}};
        for (int[] row : due) {
            check.due("slip " + row[0], x.mend(row[0], 100), row[1]);
            check.due("slip -" + row[0], x.mend(-row[0], 100), row[1]);
        }
    }

    private static void mendFloor() {
        MixDesk x = check.desk("22: each BEAT is bent by floor(step BOUND / 1000) ticks at most");
        // 124 80 / 1000 is 9.92, 125 80 / 1000 is 10
        check.due("36 of 124", x.mend(36, 124), 1);
        check.due("37 of 124", x.mend(37, 124), 2);
        check.due("40 of 125", x.mend(40, 125), 1);
        check.due("41 of 125", x.mend(41, 125), 2);
        x.costs(1000, 10, 5);
        check.due("all of 400", x.mend(1600, 400), 1);
        check.due("all of 400", x.mend(1601, 400), 2);
        check.due("all of 20", x.mend(-81, 20), 2);
        x.costs(999, 10, 5);
        check.due("399 of 400", x.mend(1596, 400), 1);
        check.due("399 of 400", x.mend(1597, 400), 2);
    }
}
