import java.util.ArrayList;
import java.util.List;

/** The boundary cases of STROKES, sentence by sentence: Terms II and promises 11 to 14. The titles are the document's words. */
public final class StrokeEdgeTest {
    private static final Check check = new Check();
    private static final Refused refused = new Refused(check);

    public static void main(String[] args) {
        strokeHowMany();
        strokeAboveTheLast();
        strokeNotBelow0();
        strokeNotAboveAMillion();
        strokeSixty();
        clearEmptyAndFull();
        clearLetsThemBegin();
        findGap();
        findMiss();
        findSkip();
        findNoStrokes();
        findOneStroke();
        findNearest();
        findOneGapAtLeast();
        findMissesOneLessThanGaps();
        findSkipsAll();
        findOneTakenAtLeast();
        findFirstOfEqual();
        findSixty();
        findGreatestCosts();
        findAnewWithFewer();
        foundNoneYet();
        foundNumbers();
        foundLast();
        foundAsTheyWereThen();
        check.end();
    }

    private static MixDesk desk(String title, int... ticks) {
        check.title(title);
        MixDesk x = new MixDesk();
        for (int tick : ticks) {
            x.stroke(tick);
        }
        return x;
    }

    private static void dueBeats(String call, MixDesk x, Integer... due) {
        List<Integer> row = new ArrayList<>();
        for (int k = 0; k <= 60 && x.found(k) != -1; k++) {
            row.add(x.found(k));
        }
        check.due(call + ": beats " + row + ", due are " + List.of(due), row.equals(List.of(due)), true);
        check.due(call + ": behind them", x.found(due.length), -1);
    }

    // ---- promise 11

    private static void strokeHowMany() {
        MixDesk x = desk("11: One STROKE more: how many");
        for (int i = 1; i <= 60; i++) {
            check.due("stroke " + i, x.stroke(i), i);
        }
    }

    private static void strokeAboveTheLast() {
        MixDesk x = desk("11: NONE when it is not above the last one", 0);
        check.due("the next tick", x.stroke(1), 2);
        check.due("and the next", x.stroke(2), 3);
        Refused behind = new Refused(check, d -> {
            d.stroke(7);
            d.stroke(500);
        });
        for (int tick : new int[] {500, 499, 8, 7, 6, 0}) {
            behind.isNone("stroke " + tick + " behind 500", d -> d.stroke(tick));
        }
        Refused last = new Refused(check, d -> d.stroke(0));
        last.isNone("stroke 0 behind 0", d -> d.stroke(0));
        // a refused one is not the last one
        MixDesk y = desk("11: NONE when it is not above the last one", 10);
        check.due("refused", y.stroke(1000001), -1);
        check.due("refused", y.stroke(3), -1);
        check.due("above the last one that was taken", y.stroke(11), 2);
    }

    private static void strokeNotBelow0() {
        MixDesk x = desk("11: NONE when it is below 0");
        check.due("0", x.stroke(0), 1);
        Refused none = new Refused(check, d -> { });
        for (int tick : new int[] {-1, -2, Integer.MIN_VALUE}) {
            none.isNone("stroke " + tick, d -> d.stroke(tick));
            refused.isNone("stroke " + tick + " behind others", d -> d.stroke(tick));
        }
    }

    private static void strokeNotAboveAMillion() {
        MixDesk x = desk("11: NONE when it is above 1000000");
        check.due("999999", x.stroke(999999), 1);
        check.due("1000000", x.stroke(1000000), 2);
        check.due("no more above it", x.stroke(1000001), -1);
        Refused none = new Refused(check, d -> { });
        for (int tick : new int[] {1000001, 1000002, Integer.MAX_VALUE}) {
            none.isNone("stroke " + tick, d -> d.stroke(tick));
            refused.isNone("stroke " + tick + " behind others", d -> d.stroke(tick));
        }
        check.due("1000000 alone", desk("11: 1000000").stroke(1000000), 1);
    }

    private static void strokeSixty() {
        MixDesk x = desk("11: NONE when there are 60");
        for (int i = 0; i < 59; i++) {
            x.stroke(i);
        }
        check.due("the 60th", x.stroke(59), 60);
        check.due("the 61st", x.stroke(60), -1);
        check.due("the 61st", x.stroke(1000000), -1);
        check.due("60 are there", x.clear(), 60);
        Refused full = new Refused(check, d -> {
            for (int i = 0; i < 60; i++) {
                d.stroke(10 * i);
            }
        });
        full.isNone("the 61st", d -> d.stroke(591));
        full.isNone("the 61st", d -> d.stroke(600));
    }

    // ---- promise 12

    private static void clearEmptyAndFull() {
        MixDesk x = desk("12: how many there were");
        check.due("none", x.clear(), 0);
        check.due("none again", x.clear(), 0);
        x.stroke(0);
        check.due("one", x.clear(), 1);
        check.due("none", x.clear(), 0);
        for (int i = 0; i < 61; i++) {
            x.stroke(i);
        }
        check.due("60", x.clear(), 60);
        check.due("none", x.clear(), 0);
    }

    private static void clearLetsThemBegin() {
        MixDesk x = desk("12: All STROKES go", 5, 1000000);
        check.due("clear", x.clear(), 2);
        check.due("none is found", x.find(100, 0, 0), -1);
        check.due("a lower one is the first one", x.stroke(0), 1);
        for (int i = 1; i < 60; i++) {
            check.due("60 more", x.stroke(i), i + 1);
        }
    }

    // ---- promise 13

    private static void findGap() {
        MixDesk x = desk("II: GAP (10 .. 1000)", 0, 1000);
        check.due("gap 10", x.find(10, 1, 10000), 99);
        check.due("gap 11", x.find(11, 0, 10000), 1);
        check.due("gap 999", x.find(999, 0, 10000), 1);
        check.due("gap 1000", x.find(1000, 10000, 10000), 0);
        for (int gap : Refused.outside(10, 1000)) {
            refused.isNone("gap " + gap, d -> d.find(gap, 0, 10));
        }
        refused.isNone("gap 0", d -> d.find(0, 0, 10));
        refused.isNone("gap -100", d -> d.find(-100, 0, 10));
    }

    private static void findMiss() {
        MixDesk x = desk("II: MISS 0 .. 10000", 0, 20);
        check.due("miss 0", x.find(10, 0, 10000), 0);
        check.due("miss 1", x.find(10, 1, 10000), 1);
        check.due("miss 9999", x.find(10, 9999, 10000), 9999);
        check.due("miss 10000", x.find(10, 10000, 10000), 10000);
        dueBeats("as dear as a skip", x, 0, 1);
        for (int miss : Refused.outside(0, 10000)) {
            refused.isNone("miss " + miss, d -> d.find(100, miss, 10));
        }
    }

    private static void findSkip() {
        MixDesk x = desk("II: SKIP 0 .. 10000", 0, 20);
        check.due("skip 0", x.find(10, 10000, 0), 0);
        dueBeats("skip 0", x, 0);
        check.due("skip 1", x.find(10, 10000, 1), 1);
        dueBeats("skip 1", x, 0);
        check.due("skip 9999", x.find(10, 10000, 9999), 9999);
        dueBeats("skip 9999", x, 0);
        check.due("skip 10000", x.find(10, 10000, 10000), 10000);
        dueBeats("skip 10000", x, 0, 1);
        for (int skip : Refused.outside(0, 10000)) {
            refused.isNone("skip " + skip, d -> d.find(100, 0, skip));
        }
    }

    private static void findNoStrokes() {
        desk("13: -1 there are no STROKES");
        new Refused(check, d -> { }).isNone("none yet", d -> d.find(100, 0, 0));
        new Refused(check, d -> {
            d.stroke(5);
            d.stroke(105);
            d.find(100, 0, 10);
            d.clear();
        }).isNone("none any more", d -> d.find(100, 0, 0));
    }

    private static void findOneStroke() {
        desk("II: One at least is taken, if there are any: one STROKE");
        for (int tick : new int[] {0, 1000000}) {
            for (int cost : new int[] {0, 10000}) {
                MixDesk x = desk("II: one STROKE", tick);
                check.due("gap 10", x.find(10, cost, cost), 0);
                dueBeats("gap 10", x, 0);
                check.due("gap 1000", x.find(1000, cost, cost), 0);
                dueBeats("gap 1000", x, 0);
            }
        }
    }

    private static void findNearest() {
        desk("II: m = the whole number nearest to d / GAP (of two the lesser)");
        // d, GAP, m: halves go to the lesser one, the tick behind them to the greater one
        int[][] due = {{14, 10, 1}, {15, 10, 1}, {16, 10, 2}, {24, 10, 2}, {25, 10, 2}, {26, 10, 3}, {16, 11, 1}, {17, 11, 2},
            {27, 11, 2}, {28, 11, 3}, {1500, 1000, 1}, {1501, 1000, 2}, {2500, 1000, 2}, {2501, 1000, 3}, {1498, 999, 1},
            {1499, 999, 2}, {10, 10, 1}, {20, 10, 2}};
        for (int[] row : due) {
            MixDesk x = desk("II: " + row[0] + " by " + row[1], 0, row[0]);
            int cost = Math.abs(row[0] - row[2] * row[1]) + (row[2] - 1) * 1000;
            check.due("cost", x.find(row[1], 1000, 10000), cost);
            dueBeats("both", x, 0, 1);
        }
        MixDesk x = desk("II: the farthest", 0, 1000000);
        check.due("by 10", x.find(10, 0, 10000), 0);
        check.due("by 999: 1001 gaps are 999999", x.find(999, 9, 10000), 9001);
        check.due("by 1000", x.find(1000, 10, 10000), 9990);
    }

    private static void findOneGapAtLeast() {
        desk("II: but 1 at least");
        int[][] due = {{1, 10}, {4, 10}, {5, 10}, {6, 10}, {1, 1000}, {500, 1000}, {501, 1000}, {999, 1000}};
        for (int[] row : due) {
            MixDesk x = desk("II: but 1 at least: " + row[0] + " by " + row[1], 3, 3 + row[0]);
            check.due("cost", x.find(row[1], 10000, 10000), row[1] - row[0]);
            dueBeats("both", x, 0, 1);
        }
    }

    private static void findMissesOneLessThanGaps() {
        MixDesk x = desk("II: (m - 1) times MISS", 0, 100, 300, 600);
        check.due("0 and 1 and 2", x.find(100, 7, 10000), 21);
        check.due("0 and 1 and 2 gaps of no cost", x.find(100, 0, 10000), 0);
        dueBeats("all", x, 0, 1, 2, 3);
    }

    private static void findSkipsAll() {
        MixDesk x = desk("II: each that is not taken costs SKIP: ahead, between and behind", 0, 37, 137, 187, 237, 290);
        check.due("cost", x.find(100, 10000, 20), 60);
        dueBeats("the first one, one between and the last one are not taken", x, 1, 2, 4);
        check.due("cost", x.find(100, 10000, 1), 3);
        dueBeats("the same, as long as a skip costs something", x, 1, 2, 4);
        check.due("cost", x.find(100, 10000, 0), 0);
        dueBeats("the first one alone, when it costs nothing", x, 0);
    }

    private static void findOneTakenAtLeast() {
        MixDesk x = desk("II: One at least is taken, if there are any", 0, 15, 30);
        check.due("cost", x.find(10, 10000, 0), 0);
        dueBeats("where none costs as much as one", x, 0);
        check.due("cost", x.find(11, 1, 1), 2);
        dueBeats("two are not", x, 0);
    }

    private static void findFirstOfEqual() {
        MixDesk x = desk("II: that which takes a STROKE that the other one does not, where they first differ", 0, 90, 110, 200);
        check.due("0 1 3 and 0 2 3", x.find(100, 10000, 15), 35);
        dueBeats("0 1 3 and 0 2 3", x, 0, 1, 3);
        MixDesk y = desk("II: the longer one of two that begin alike", 0, 130);
        check.due("0 1 and 0 and 1", y.find(100, 0, 30), 30);
        dueBeats("0 1 and 0 and 1", y, 0, 1);
        check.due("0 and 1", y.find(100, 0, 29), 29);
        dueBeats("0 and 1", y, 0);
        MixDesk z = desk("II: the first one, though it takes fewer", 0, 17, 117, 217);
        // 0 alone costs three SKIPS, 17 with 117 and 217 one SKIP
        check.due("0 alone, or the others", z.find(100, 10000, 0), 0);
        dueBeats("0 alone, or the others", z, 0);
        check.due("the others are cheaper", z.find(100, 10000, 1), 1);
        dueBeats("the others are cheaper", z, 1, 2, 3);
    }

    private static void findSixty() {
        MixDesk x = desk("II: a row of up to 60 ticks");
        for (int i = 0; i < 60; i++) {
            x.stroke(10 * i);
        }
        check.due("all", x.find(10, 10000, 10000), 0);
        check.due("the last one", x.found(59), 59);
        check.due("behind it", x.found(60), -1);
        check.due("every second one", x.find(20, 10000, 1), 30);
        check.due("every second one", x.found(29), 58);
        check.due("every second one", x.found(30), -1);
        check.due("the first one and the last one", x.find(590, 10000, 9), 58 * 9);
        dueBeats("the first one and the last one", x, 0, 59);
        check.due("one", x.find(1000, 10000, 1), 59);
        dueBeats("one", x, 0);
    }

    private static void findGreatestCosts() {
        MixDesk x = desk("13: the greatest costs");
        x.stroke(0);
        for (int i = 58; i >= 0; i--) {
            x.stroke(1000000 - i);
        }
        // 58 gaps of 1000 between ticks that are 1 apart, and one of 999942 ticks
        check.due("all are taken", x.find(1000, 10000, 10000), 58 * 999 + 10000);
        check.due("but the first one", x.found(0) * 100 + x.found(58), 159);
        check.due("with it", x.find(1000, 0, 10000), 58 * 999 + 58);
        check.due("with it", x.found(0) * 100 + x.found(59), 59);
        MixDesk y = desk("13: the greatest costs");
        for (int i = 0; i < 60; i++) {
            y.stroke(16949 * i);
        }
        check.due("all but one are skipped", y.find(10, 10000, 10000), 590000);
        dueBeats("all but one are skipped", y, 0);
    }

    private static void findAnewWithFewer() {
        for (int count = 60; count > 1; count--) {
            MixDesk x = desk("13: THE BEATS are found, of " + count + " STROKES and then of one less");
            dueRow(x, count);
            x.clear();
            dueRow(x, count - 1);
        }
    }

    /** So many STROKES, 13 ticks apart: by a GAP of 10 all are taken, and each but the first one costs 3. */
    private static void dueRow(MixDesk x, int count) {
        for (int i = 0; i < count; i++) {
            check.due("stroke", x.stroke(13 * i), i + 1);
        }
        check.due("cost", x.find(10, 0, 100), 3 * (count - 1));
        check.due("the last one", x.found(count - 1), count - 1);
        check.due("behind it", x.found(count), -1);
    }

    // ---- promise 14

    private static void foundNoneYet() {
        desk("14: NONE when there is none such: none were found");
        Refused none = new Refused(check, d -> d.stroke(5));
        for (int k : new int[] {0, 1, -1, Integer.MIN_VALUE, Integer.MAX_VALUE}) {
            none.isNone("found " + k, d -> d.found(k));
        }
    }

    private static void foundNumbers() {
        MixDesk x = desk("14: STROKE k of THE BEATS (its number, in order)", 0, 50, 100, 150, 200);
        x.find(100, 10000, 1);
        dueBeats("numbers, no ticks", x, 0, 2, 4);
        Refused three = new Refused(check, d -> {
            for (int tick = 0; tick <= 200; tick += 50) {
                d.stroke(tick);
            }
            d.find(100, 10000, 1);
        });
        for (int k : Refused.outside(0, 2)) {
            three.isNone("found " + k, d -> d.found(k));
        }
        three.isNone("found 4, as there are 5 STROKES", d -> d.found(4));
    }

    private static void foundLast() {
        MixDesk x = desk("14: that were found last", 0, 50, 100);
        x.find(50, 0, 10);
        dueBeats("three", x, 0, 1, 2);
        x.find(100, 0, 10);
        dueBeats("then two", x, 0, 2);
        x.find(100, 10001, 10);
        dueBeats("none were found", x, 0, 2);
        x.find(1000, 0, 10);
        dueBeats("then one", x, 0);
    }

    private static void foundAsTheyWereThen() {
        MixDesk x = desk("14: as STROKES were then", 0, 50, 100);
        x.find(100, 0, 10);
        x.stroke(200);
        dueBeats("one more", x, 0, 2);
        x.clear();
        dueBeats("none any more", x, 0, 2);
        x.find(100, 0, 10);
        dueBeats("and none to be found", x, 0, 2);
        x.stroke(1);
        dueBeats("others", x, 0, 2);
        x.find(100, 0, 10);
        dueBeats("until they are found", x, 0);
    }
}
