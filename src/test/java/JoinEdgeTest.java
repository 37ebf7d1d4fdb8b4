/** The boundary cases of JOINS, sentence by sentence: Terms III and promises 15 to 18. The titles are the document's words. */
public final class JoinEdgeTest {
    private static final Check check = new Check();
    private static final Refused refused = new Refused(check);

    public static void main(String[] args) {
        costsAtFirst();
        costsBound();
        costsKey();
        costsHeat();
        joinSongs();
        joinUnlikeOnes();
        joinLength();
        joinPlaces();
        joinPlacesWithLoop();
        joinBroken();
        joinTooFewLeft();
        joinPhraseOfOne();
        joinPhraseOfSixteen();
        joinPhraseBothBars();
        joinPhraseAtTheBarPlayed();
        joinPhraseNotAsked();
        joinHoldsAtBound();
        joinHoldsAtGreatestBound();
        joinKeysRound();
        joinKeysRings();
        joinHeatsApart();
        joinCostSums();
        joinBeatsUp();
        joinBeatsDown();
        joinBeatsOfEight();
        meetsNoneYet();
        meetsBeats();
        meetsEnd();
        meetsWhat();
        meetsBends();
        meetsLatestOfACost();
        bestSongs();
        bestLength();
        bestWhat();
        bestNone();
        bestTooShort();
        bestLeastCost();
        bestOfBarsThatDifferInOneBeat();
        bestGreatestPThenLeastQ();
        bestPhrasesAsked();
        bestHolds();
        bestAsToldNow();
        check.end();
    }

    // ---- promise 15

    private static void costsAtFirst() {
        // 8 1000 / 100 is 80, and 8 1000 / 98 is 81
        MixDesk x = check.deskOf("III: 80, 10 and 5 at first", 108, 100, 106, 98);
        check.due("BOUND 80 holds", x.join(0, 1, 1, 0, 0, false), 32);
        check.due("81 does not", x.join(2, 3, 1, 0, 0, false), -4);
        x.about(1, 1, 0, 4);
        check.due("KEYCOST 10", x.join(0, 1, 1, 0, 0, false), 42);
        x.about(1, 0, 1, 4);
        check.due("HEATCOST 5", x.join(0, 1, 1, 0, 0, false), 37);
    }

    private static void costsBound() {
        MixDesk x = check.deskOf("III: BOUND (0 .. 1000)", 100, 100, 101, 200);
        check.due("0", x.costs(0, 10, 5), true);
        check.due("no bend at all", x.join(0, 1, 1, 0, 0, false), 0);
        check.due("the least bend", x.join(0, 2, 1, 0, 0, false), -4);
        check.due("1", x.costs(1, 10, 5), true);
        check.due("999", x.costs(999, 10, 5), true);
        check.due("200 into 100 is bent by 1000", x.join(3, 0, 1, 0, 0, false), -4);
        check.due("1000", x.costs(1000, 10, 5), true);
        check.due("200 into 100 is bent by 1000", x.join(3, 0, 1, 0, 0, false), 400);
        for (int bound : Refused.outside(0, 1000)) {
            refused.isFalse("bound " + bound, d -> d.costs(bound, 1, 2));
        }
    }

    private static void costsKey() {
        MixDesk x = check.deskOf("III: KEYCOST (0 .. 1000)", 100, 100);
        x.about(0, 0, 0, 4);
        x.about(1, 18, 0, 4);
        for (int cost : new int[] {0, 1, 999, 1000}) {
            check.due("keycost " + cost, x.costs(80, cost, 5), true);
            check.due("keycost " + cost, x.join(0, 1, 1, 0, 0, false), 7 * cost);
        }
        for (int cost : Refused.outside(0, 1000)) {
            refused.isFalse("keycost " + cost, d -> d.costs(1, cost, 2));
        }
    }

    private static void costsHeat() {
        MixDesk x = check.deskOf("III: HEATCOST (0 .. 1000)", 100, 100);
        x.about(0, 0, 9, 4);
        for (int cost : new int[] {0, 1, 999, 1000}) {
            check.due("heatcost " + cost, x.costs(80, 10, cost), true);
            check.due("heatcost " + cost, x.join(0, 1, 1, 0, 0, false), 9 * cost);
        }
        for (int cost : Refused.outside(0, 1000)) {
            refused.isFalse("heatcost " + cost, d -> d.costs(1, 2, cost));
        }
    }

    // ---- promise 16

    private static void joinSongs() {
        MixDesk x = check.desk("16: -1 no such SONGS");
        x.song(0, 0, 4, 100, 0);
        x.song(11, 0, 4, 100, 0);
        check.due("0 into 11", x.join(0, 11, 1, 0, 0, false), 0);
        check.due("11 into 0", x.join(11, 0, 1, 0, 0, false), 0);
        for (int s : Refused.outside(0, 11)) {
            refused.answers("join of " + s, d -> d.join(s, 1, 1, 0, 0, false), -1);
            refused.answers("join into " + s, d -> d.join(1, s, 1, 0, 0, false), -1);
        }
        refused.answers("join of one that is not there", d -> d.join(4, 1, 1, 0, 0, false), -1);
        refused.answers("join into one that is not there", d -> d.join(1, 4, 1, 0, 0, false), -1);
        refused.answers("neither is there", d -> d.join(4, 5, 1, 0, 0, false), -1);
    }

    private static void joinUnlikeOnes() {
        check.desk("III: of SONG a into SONG b (unlike ones)");
        for (int s = 0; s < 5; s++) {
            int asked = s;
            refused.answers("join of " + s + " into itself", d -> d.join(asked, asked, 1, 0, 1, false), -1);
        }
    }

    private static void joinLength() {
        MixDesk x = check.deskOf("III: n (1 .. 8) BARS long", 100, 104);
        for (int n = 1; n <= 8; n++) {
            check.due("n " + n, x.join(0, 1, n, 0, 0, false), 16 * n);
            check.due("its end", x.meets(4 * n, 0), x.meets(4 * n - 1, 0) + x.meets(4 * n - 1, 1));
            check.due("behind its end", x.meets(4 * n + 1, 0), -1);
        }
        for (int n : Refused.outside(1, 8)) {
            refused.answers("n " + n, d -> d.join(0, 1, n, 0, 0, false), -1);
        }
        // -1 where n can't be, though too few BARS were left as well
        check.deskOf("16: -1 no such n, -2 too few are left", 100, 100);
        refused.answers("n 9 in 4 bars", d -> d.join(0, 3, 9, 0, 0, false), -1);
        refused.answers("n 8 in 4 bars", d -> d.join(0, 3, 8, 0, 0, false), -2);
    }

    private static void joinPlaces() {
        MixDesk x = check.desk("16: -1 no such BARS");
        x.song(0, 0, 2, 100, 0);
        x.song(1, 0, 64, 100, 0);
        for (int p = 0; p <= 1; p++) {
            check.due("p " + p, x.join(0, 1, 1, p, 0, false), 0);
            check.due("q " + p, x.join(1, 0, 1, 0, p, false), 0);
        }
        check.due("p 63", x.join(1, 0, 1, 63, 0, false), 0);
        check.due("q 63", x.join(0, 1, 1, 0, 63, false), 0);
        check.due("p 64", x.join(1, 0, 1, 64, 0, false), -1);
        check.due("q 64", x.join(0, 1, 1, 0, 64, false), -1);
        for (int p : Refused.outside(0, 3)) {
            refused.answers("p " + p + " of 4", d -> d.join(0, 3, 1, p, 0, false), -1);
            refused.answers("q " + p + " of 4", d -> d.join(3, 0, 1, 0, p, false), -1);
            refused.answers("p " + p + " of 4, 8 long", d -> d.join(0, 3, 8, p, 0, true), -1);
        }
    }

    private static void joinPlacesWithLoop() {
        MixDesk x = check.deskOf("III: PLAYED BAR p of a and PLAYED BAR q of b", 100, 100);
        x.loop(0, 6, 7, 3);
        check.due("p 11 of 12", x.join(0, 1, 1, 11, 0, false), 0);
        check.due("q 11 of 12", x.join(1, 0, 1, 0, 11, false), 0);
        check.due("p 4 of 12, 8 long", x.join(0, 1, 8, 4, 0, false), 0);
        check.due("p 5 of 12, 8 long", x.join(0, 1, 8, 5, 0, false), -2);
        for (int p : Refused.outside(0, 7)) {
            refused.answers("p " + p + " of 8 played", d -> d.join(1, 3, 1, p, 0, false), -1);
            refused.answers("q " + p + " of 8 played", d -> d.join(3, 1, 1, 0, p, false), -1);
        }
    }

    private static void joinBroken() {
        check.desk("16: -2 a BAR is BROKEN");
        for (int beats = 1; beats <= 4; beats++) {
            MixDesk x = check.deskOf("16: a BAR of " + beats + " BEATS", 100, 100);
            x.bar(0, 4, beats);
            int due = beats < 4 ? -2 : 0;
            check.due("the first one of a", x.join(0, 1, 1, 4, 0, false), due);
            check.due("the last one of a", x.join(0, 1, 3, 2, 0, false), due);
            check.due("one between of a", x.join(0, 1, 3, 3, 0, false), due);
            check.due("the first one of b", x.join(1, 0, 1, 0, 4, false), due);
            check.due("the last one of b", x.join(1, 0, 3, 0, 2, false), due);
            check.due("ahead of it in a", x.join(0, 1, 4, 0, 0, false), 0);
            check.due("behind it in a", x.join(0, 1, 3, 5, 0, false), 0);
            check.due("ahead of it in b", x.join(1, 0, 4, 0, 0, false), 0);
            check.due("behind it in b", x.join(1, 0, 3, 0, 5, false), 0);
        }
        // PLAYED BAR 5 of SONG 1 and 11 of SONG 2 are BROKEN
        refused.answers("the first one of a", d -> d.join(1, 0, 1, 5, 0, false), -2);
        refused.answers("the last one of a", d -> d.join(1, 0, 2, 4, 0, false), -2);
        refused.answers("the first one of b", d -> d.join(0, 2, 1, 0, 11, false), -2);
        refused.answers("the last one of b", d -> d.join(0, 2, 3, 0, 9, false), -2);
    }

    private static void joinTooFewLeft() {
        MixDesk x = check.deskOf("16: -2 too few are left", 100, 100);
        for (int n = 2; n <= 8; n++) {
            check.due("as many of a as are left", x.join(0, 1, n, 8 - n, 0, false), 0);
            check.due("as many of b as are left", x.join(0, 1, n, 0, 8 - n, false), 0);
            check.due("one too few of a", x.join(0, 1, n, 9 - n, 0, false), -2);
            check.due("one too few of b", x.join(0, 1, n, 0, 9 - n, false), -2);
        }
        refused.answers("one too few of a", d -> d.join(0, 3, 2, 3, 0, false), -2);
        refused.answers("one too few of b", d -> d.join(0, 3, 2, 0, 4, false), -2);
        refused.answers("all too few", d -> d.join(0, 3, 8, 0, 0, false), -2);
        MixDesk y = check.desk("16: -2 too few are left of 64");
        y.song(0, 0, 64, 100, 0);
        y.song(1, 0, 64, 100, 0);
        check.due("8 are left", y.join(0, 1, 8, 56, 56, false), 0);
        check.due("7 are left of a", y.join(0, 1, 8, 57, 0, false), -2);
        check.due("7 are left of b", y.join(0, 1, 8, 0, 57, false), -2);
        y.song(0, 0, 32, 100, 0);
        y.loop(0, 0, 31, 2);
        check.due("8 are left behind a loop's first time", y.join(0, 1, 8, 31, 0, false), 0);
        y.loop(0, 0, 0, 1);
        check.due("one is left without the loop", y.join(0, 1, 1, 31, 0, false), 0);
        check.due("one too few without the loop", y.join(0, 1, 2, 31, 0, false), -2);
    }

    private static void joinPhraseOfOne() {
        MixDesk x = check.deskOf("I: each PHRASE (1 .. 16) BARS, from BAR 0 on, one begins: 1", 100, 100);
        x.about(0, 0, 0, 1);
        x.about(1, 0, 0, 1);
        for (int p = 0; p < 8; p++) {
            check.due("at " + p, x.join(0, 1, 1, p, 7 - p, true), 0);
        }
    }

    private static void joinPhraseOfSixteen() {
        MixDesk x = check.desk("I: each PHRASE (1 .. 16) BARS, from BAR 0 on, one begins: 16");
        x.song(0, 0, 64, 100, 0);
        x.song(1, 0, 8, 100, 0);
        x.about(0, 0, 0, 16);
        x.about(1, 0, 0, 16);
        for (int p = 0; p < 64; p++) {
            check.due("at " + p, x.join(0, 1, 1, p, 0, true), p % 16 == 0 ? 0 : -3);
        }
        for (int q = 0; q < 8; q++) {
            check.due("in a song of fewer BARS, at " + q, x.join(0, 1, 1, 0, q, true), q == 0 ? 0 : -3);
        }
    }

    private static void joinPhraseBothBars() {
        MixDesk x = check.deskOf("16: -3 PHRASES are asked and none begins there", 100, 100);
        x.about(0, 0, 0, 4);
        x.about(1, 0, 0, 3);
        for (int p = 0; p < 8; p++) {
            for (int q = 0; q < 8; q++) {
                check.due("at " + p + " and " + q, x.join(0, 1, 1, p, q, true), p % 4 == 0 && q % 3 == 0 ? 0 : -3);
            }
        }
        // PHRASES of SONG 0 have 2 BARS, of SONG 3 5
        refused.answers("not in a", d -> d.join(0, 3, 1, 1, 0, true), -3);
        refused.answers("not in b", d -> d.join(0, 3, 1, 0, 4, true), -3);
        refused.answers("in neither", d -> d.join(0, 3, 1, 3, 1, true), -3);
    }

    private static void joinPhraseAtTheBarPlayed() {
        MixDesk x = check.deskOf("III: a PHRASE begins (at the BAR that is played)", 100, 100);
        x.loop(0, 3, 4, 3);
        // 0 1 2 3 4 3 4 3 4 5 6 7
        boolean[] begins = {true, false, false, false, true, false, true, false, true, false, false, false};
        for (int p = 0; p < 12; p++) {
            check.due("p " + p, x.join(0, 1, 1, p, 0, true), begins[p] ? 0 : -3);
            check.due("q " + p, x.join(1, 0, 1, 0, p, true), begins[p] ? 0 : -3);
        }
    }

    private static void joinPhraseNotAsked() {
        MixDesk x = check.deskOf("III: if PHRASES are asked", 100, 100);
        for (int p = 0; p < 8; p++) {
            check.due("p " + p, x.join(0, 1, 1, p, 7 - p, false), 0);
        }
    }

    private static void joinHoldsAtBound() {
        check.desk("III: A JOIN holds if none of its BENDS is above BOUND");
        MixDesk x = new MixDesk();
        x.song(0, 0, 8, 100, 0);
        x.song(1, 0, 8, 108, 0);
        x.song(2, 0, 8, 107, 0);
        x.song(3, 0, 8, 99, 0);
        x.song(4, 0, 8, 110, 0);
        x.song(5, 1, 8, 100, 10);
        // of a, of b, n, the greatest BEND: 8 1000 / 100 of BEAT 0 against b; of BEAT 31 against a;
        // floor(8 1000 / 99); 15 1000 / 90 of BEAT 1 against b
        int[][] due = {{1, 0, 1, 80}, {0, 1, 8, 80}, {2, 3, 1, 80}, {4, 5, 1, 166}};
        for (int[] row : due) {
            x.costs(row[3], 10, 5);
            check.due(row[0] + " into " + row[1] + " at " + row[3], x.join(row[0], row[1], row[2], 0, 0, false) > 0, true);
            x.costs(row[3] - 1, 10, 5);
            check.due(row[0] + " into " + row[1] + " below", x.join(row[0], row[1], row[2], 0, 0, false), -4);
        }
        new Refused(check, d -> {
            d.song(0, 0, 8, 108, 0);
            d.song(1, 0, 8, 100, 0);
            d.join(1, 0, 2, 0, 0, false);
            d.night(1);
            d.costs(79, 10, 5);
        }).answers("one above BOUND", d -> d.join(0, 1, 1, 0, 0, false), -4);
    }

    private static void joinHoldsAtGreatestBound() {
        MixDesk x = check.deskOf("III: BOUND 1000 is the greatest", 20, 41, 42, 400, 200, 199);
        x.costs(1000, 0, 0);
        // 20 into 41: BEAT 31 lasts 40, twice as long; 20 into 42: 41
        check.due("1000 against a", x.join(0, 1, 8, 0, 0, false), 32 * 21);
        check.due("its greatest bend", x.meets(31, 2), 1000);
        check.due("1050 against a", x.join(0, 2, 8, 0, 0, false), -4);
        check.due("1000 against b", x.join(3, 4, 8, 0, 0, false), 32 * 200);
        check.due("its greatest bend", x.meets(0, 2), 1000);
        check.due("1010 against b", x.join(3, 5, 8, 0, 0, false), -4);
    }

    private static int keysCost(MixDesk x, int key, int other) {
        x.about(0, key, 0, 4);
        x.about(1, other, 0, 4);
        return x.join(0, 1, 1, 0, 0, false);
    }

    private static void joinKeysRound() {
        MixDesk x = check.deskOf("III: the lesser way round between the places", 100, 100);
        x.costs(80, 1, 5);
        int[] apart = {0, 1, 2, 3, 4, 5, 6, 5, 4, 3, 2, 1};
        for (int place = 0; place < 12; place++) {
            check.due("0 and " + place, keysCost(x, 0, place), apart[place]);
            check.due(place + " and 0", keysCost(x, place, 0), apart[place]);
            check.due("on the other ring", keysCost(x, 12 + place, 12), apart[place]);
            check.due("11 and " + place, keysCost(x, 11, place), apart[11 - place]);
            check.due("5 and " + place, keysCost(x, 5, place), apart[(place + 7) % 12]);
        }
    }

    private static void joinKeysRings() {
        MixDesk x = check.deskOf("III: and 1 if the rings differ", 100, 100);
        x.costs(80, 1, 5);
        int[] apart = {0, 1, 2, 3, 4, 5, 6, 5, 4, 3, 2, 1};
        for (int place = 0; place < 12; place++) {
            check.due("0 and " + (12 + place), keysCost(x, 0, 12 + place), 1 + apart[place]);
            check.due((12 + place) + " and 0", keysCost(x, 12 + place, 0), 1 + apart[place]);
            check.due("23 and " + place, keysCost(x, 23, place), 1 + apart[11 - place]);
        }
        // the numbers 11 and 12 are neighbours, the places 11 and 0 on the two rings are 2 apart
        check.due("11 and 12", keysCost(x, 11, 12), 2);
        check.due("11 and 23", keysCost(x, 11, 23), 1);
        check.due("0 and 23", keysCost(x, 0, 23), 2);
    }

    private static void joinHeatsApart() {
        MixDesk x = check.deskOf("III: how far the HEATS are apart", 100, 100);
        x.costs(80, 10, 1);
        for (int heat = 0; heat <= 9; heat++) {
            x.about(0, 0, heat, 4);
            x.about(1, 0, 0, 4);
            check.due(heat + " into 0", x.join(0, 1, 1, 0, 0, false), heat);
            check.due("0 into " + heat, x.join(1, 0, 1, 0, 0, false), heat);
            x.about(1, 0, 9, 4);
            check.due(heat + " into 9", x.join(0, 1, 1, 0, 0, false), 9 - heat);
        }
    }

    private static void joinCostSums() {
        MixDesk x = check.deskOf("III: the least and the greatest cost", 400, 200, 400);
        check.due("nothing is apart", x.join(0, 2, 8, 0, 0, true), 0);
        x.about(0, 0, 0, 4);
        x.about(1, 18, 9, 4);
        x.costs(1000, 1000, 1000);
        check.due("all is far apart", x.join(0, 1, 8, 0, 0, true), 32 * 200 + 7000 + 9000);
        check.due("the other way", x.join(1, 0, 8, 0, 0, true), 32 * 200 + 7000 + 9000);
    }

    /** The lengths of the BEATS of the JOIN of 0 into 1. */
    private static void dueLasts(MixDesk x, int n, int... due) {
        x.costs(1000, 10, 5);
        check.due("join", x.join(0, 1, n, 0, 0, false) >= 0, true);
        for (int j = 0; j < due.length; j++) {
            check.due("beat " + j, x.meets(j, 1), due[j]);
        }
    }

    private static void joinBeatsUp() {
        // halves go up: 2 1 / 4 is one half
        dueLasts(check.deskOf("III: x and floor(((y - x) j and 2 n) / (4 n)), y above x by 1", 100, 101), 1, 100, 100, 101, 101);
        dueLasts(check.deskOf("III: by 2", 100, 102), 1, 100, 101, 101, 102);
        dueLasts(check.deskOf("III: by 3", 100, 103), 1, 100, 101, 102, 102);
        dueLasts(check.deskOf("III: by 4", 100, 104), 1, 100, 101, 102, 103);
        dueLasts(check.deskOf("III: by 0", 100, 100), 1, 100, 100, 100, 100);
    }

    private static void joinBeatsDown() {
        // the floor of a number below 0 is the lesser one: -3 1 / 4 and 1 / 2 is -1 / 4, and its floor -1
        dueLasts(check.deskOf("III: x and floor(((y - x) j and 2 n) / (4 n)), y below x by 1", 100, 99), 1, 100, 100, 100, 99);
        dueLasts(check.deskOf("III: by -2", 100, 98), 1, 100, 100, 99, 99);
        dueLasts(check.deskOf("III: by -3", 100, 97), 1, 100, 99, 99, 98);
        dueLasts(check.deskOf("III: by -4", 100, 96), 1, 100, 99, 98, 97);
    }

    private static void joinBeatsOfEight() {
        MixDesk x = check.deskOf("III: (from 0 to 4 n - 1), n 8", 100, 101);
        int[] due = new int[32];
        for (int j = 0; j < 32; j++) {
            due[j] = j < 16 ? 100 : 101;
        }
        dueLasts(x, 8, due);
        MixDesk y = check.deskOf("III: (from 0 to 4 n - 1), n 8, down", 100, 99);
        for (int j = 0; j < 32; j++) {
            due[j] = j < 17 ? 100 : 99;
        }
        dueLasts(y, 8, due);
        MixDesk z = check.deskOf("III: so they go from a's to b's", 100, 132);
        for (int j = 0; j < 32; j++) {
            due[j] = 100 + j;
        }
        dueLasts(z, 8, due);
    }

    // ---- promise 17

    private static void meetsNoneYet() {
        MixDesk x = check.deskOf("17: NONE when there is none such: none was told of", 100, 104, 200);
        check.due("refused", x.join(0, 1, 9, 0, 0, false), -1);
        check.due("broken or too few", x.join(0, 1, 2, 7, 0, false), -2);
        check.due("no phrase", x.join(0, 1, 1, 1, 0, true), -3);
        check.due("does not hold", x.join(0, 2, 1, 0, 0, false), -4);
        check.due("best", x.best(0, 1, 1, 0), 16);
        for (int what = 0; what <= 2; what++) {
            for (int j = -1; j <= 33; j++) {
                check.due("beat " + j, x.meets(j, what), -1);
            }
        }
    }

    private static void meetsBeats() {
        check.desk("17: BEAT j, NONE when there is none such");
        // the JOIN told of last is 1 BAR long
        for (int what = 0; what <= 2; what++) {
            int asked = what;
            for (int j : what == 0 ? Refused.outside(0, 4) : Refused.outside(0, 3)) {
                refused.isNone("beat " + j + " what " + what, d -> d.meets(j, asked));
            }
        }
        MixDesk x = check.deskOf("17: when it begins, from the JOIN's beginning (0)", 100, 104);
        for (int n = 1; n <= 8; n++) {
            check.due("join", x.join(0, 1, n, 3 % (9 - n), 0, false) >= 0, true);
            int begins = 0;
            for (int j = 0; j < 4 * n; j++) {
                check.due("begins " + j, x.meets(j, 0), begins);
                begins += x.meets(j, 1);
            }
            check.due("bend of the last one", x.meets(4 * n - 1, 2) > 0, true);
            check.due("behind the last one", x.meets(4 * n, 1), -1);
        }
    }

    private static void meetsEnd() {
        MixDesk x = check.deskOf("17: j may be 4 n for its end (0 alone)", 100, 100);
        for (int n = 8; n >= 1; n--) {
            x.join(0, 1, n, 0, 0, false);
            check.due("the end", x.meets(4 * n, 0), 400 * n);
            check.due("how long it lasts", x.meets(4 * n, 1), -1);
            check.due("its bend", x.meets(4 * n, 2), -1);
            check.due("behind the end", x.meets(4 * n + 1, 0), -1);
        }
    }

    private static void meetsWhat() {
        check.desk("17: NONE for others");
        for (int what : Refused.outside(0, 2)) {
            refused.isNone("what " + what, d -> d.meets(0, what));
            refused.isNone("what " + what + " of the end", d -> d.meets(4, what));
        }
    }

    private static void meetsBends() {
        MixDesk x = check.deskOf("III: the greater one of |c - x| 1000 / x and |c - y| 1000 / y (floors)", 100, 104, 100);
        x.join(0, 1, 1, 0, 0, false);
        // 4 of 104, 3 of 104, 2 of 100, 3 of 100
        int[] up = {38, 28, 20, 30};
        for (int j = 0; j < 4; j++) {
            check.due("up, beat " + j, x.meets(j, 2), up[j]);
        }
        x.join(1, 0, 1, 0, 0, false);
        // 4 of 100, 3 of 100, 2 of 100, 3 of 104
        int[] down = {40, 30, 20, 28};
        for (int j = 0; j < 4; j++) {
            check.due("down, beat " + j, x.meets(j, 2), down[j]);
        }
        x.join(0, 2, 1, 0, 0, false);
        for (int j = 0; j < 4; j++) {
            check.due("none, beat " + j, x.meets(j, 2), 0);
        }
    }

    private static void meetsLatestOfACost() {
        MixDesk x = check.deskOf("17: of the latest JOIN that join() told a cost of", 100, 104, 200);
        x.join(0, 1, 2, 0, 0, false);
        check.due("two bars", x.meets(8, 0), 816);
        x.join(1, 0, 1, 0, 0, false);
        check.due("then one", x.meets(4, 0), 104 + 103 + 102 + 101);
        check.due("no more of the two", x.meets(5, 0), -1);
        x.song(3, 0, 8, 100, 0);
        check.due("a cost of 0 is one too", x.join(0, 3, 1, 0, 0, false), 0);
        check.due("then that one", x.meets(4, 0), 400);
        x.join(0, 1, 1, 0, 8, false);
        x.join(0, 1, 2, 0, 7, false);
        x.join(0, 1, 1, 1, 0, true);
        x.join(0, 2, 1, 0, 0, false);
        x.best(0, 1, 1, 0);
        x.night(1);
        check.due("none of these was told a cost of", x.meets(4, 0), 400);
    }

    // ---- promise 18

    private static void bestSongs() {
        MixDesk x = check.desk("18: NONE when it can't be: SONGS");
        x.song(0, 0, 4, 100, 0);
        x.song(11, 0, 4, 101, 0);
        check.due("0 into 11", x.best(0, 11, 1, 0), 4);
        check.due("11 into 0", x.best(11, 0, 1, 0), 4);
        for (int what = 0; what <= 2; what++) {
            int asked = what;
            for (int s : Refused.outside(0, 11)) {
                refused.isNone("best of " + s, d -> d.best(s, 1, 1, asked));
                refused.isNone("best into " + s, d -> d.best(1, s, 1, asked));
            }
            refused.isNone("best of one that is not there", d -> d.best(4, 1, 1, asked));
            refused.isNone("best into one that is not there", d -> d.best(1, 4, 1, asked));
            refused.isNone("best of one into itself", d -> d.best(1, 1, 1, asked));
        }
    }

    private static void bestLength() {
        MixDesk x = check.deskOf("18: n BARS long, NONE when it can't be", 100, 104);
        for (int n = 1; n <= 8; n++) {
            check.due("cost of " + n, x.best(0, 1, n, 0), 16 * n);
            check.due("p of " + n, x.best(0, 1, n, 1), n <= 4 ? 4 : 0);
            check.due("q of " + n, x.best(0, 1, n, 2), 0);
        }
        for (int what = 0; what <= 2; what++) {
            int asked = what;
            for (int n : Refused.outside(1, 8)) {
                refused.isNone("n " + n, d -> d.best(0, 1, n, asked));
            }
        }
    }

    private static void bestWhat() {
        check.desk("18: its cost (0), p (1), q (2), NONE for others");
        for (int what : Refused.outside(0, 2)) {
            refused.isNone("what " + what, d -> d.best(0, 1, 1, what));
        }
    }

    private static void bestNone() {
        check.desk("18: NONE when there is none");
        Refused far = new Refused(check, d -> {
            d.song(0, 0, 4, 100, 0);
            d.song(1, 0, 4, 150, 0);
            d.song(2, 0, 4, 100, 0);
            d.join(0, 2, 1, 0, 0, false);
        });
        Refused broken = new Refused(check, d -> {
            d.song(0, 0, 2, 100, 0);
            d.song(1, 0, 2, 100, 0);
            d.bar(0, 0, 3);
            d.bar(0, 1, 1);
        });
        for (int what = 0; what <= 2; what++) {
            int asked = what;
            far.isNone("none holds", d -> d.best(0, 1, 1, asked));
            far.isNone("none holds the other way", d -> d.best(1, 0, 1, asked));
            broken.isNone("all BARS of a are BROKEN", d -> d.best(0, 1, 1, asked));
            broken.isNone("all BARS of b are BROKEN", d -> d.best(1, 0, 1, asked));
        }
    }

    private static void bestTooShort() {
        MixDesk x = check.desk("III: in both from there on n PLAYED BARS are there");
        x.song(0, 0, 7, 100, 0);
        x.song(1, 0, 8, 100, 0);
        check.due("7 of 7", x.best(0, 1, 7, 1), 0);
        check.due("8 of 7 in a", x.best(0, 1, 8, 0), -1);
        check.due("8 of 7 in b", x.best(1, 0, 8, 0), -1);
        x.loop(0, 6, 6, 2);
        check.due("8 of 8 played in a", x.best(0, 1, 8, 0), 0);
        check.due("8 of 8 played in b", x.best(1, 0, 8, 0), 0);
        x.bar(0, 6, 3);
        check.due("6 that are not broken", x.best(0, 1, 6, 1), 0);
        check.due("7 that are not broken", x.best(0, 1, 7, 1), -1);
    }

    private static void bestLeastCost() {
        MixDesk x = check.desk("III: the one with the least cost");
        // BARS 0 to 3 last 100 a BEAT, then 101
        x.song(0, 2, 8, 100, 1);
        x.song(1, 0, 4, 100, 0);
        x.about(0, 0, 0, 1);
        x.about(1, 0, 0, 1);
        check.due("cost", x.best(0, 1, 1, 0), 0);
        check.due("not the greatest p of all", x.best(0, 1, 1, 1), 3);
        check.due("not the least q of all", x.best(1, 0, 1, 2), 0);
        x.song(1, 0, 4, 101, 0);
        check.due("not the least q of all", x.best(1, 0, 1, 2), 4);
        x.song(1, 0, 4, 99, 0);
        check.due("none costs nothing", x.best(0, 1, 2, 0), 8);
        check.due("the greatest p of those of 100", x.best(0, 1, 2, 1), 2);
    }

    private static void bestOfBarsThatDifferInOneBeat() {
        MixDesk x = check.desk("III: the one with the least cost, by one tick of a first BEAT");
        // 21 20 20 20, then 20 20 20 20
        x.song(0, 2, 3, 21, -16);
        x.song(1, 0, 2, 21, 0);
        x.about(0, 0, 0, 1);
        check.due("cost as a", x.best(0, 1, 1, 0) * 10 + x.best(0, 1, 1, 1), 30);
        check.due("cost as b", x.best(1, 0, 1, 0) * 10 + x.best(1, 0, 1, 2), 30);
        MixDesk y = check.desk("III: the one with the least cost, by one tick of a last BEAT");
        // BAR 0 is BROKEN, BARS 1 to 3 last 100 a BEAT, BAR 4 100 100 100 101
        y.song(0, 2, 5, 100, 1);
        y.song(1, 0, 2, 101, 0);
        y.about(0, 0, 0, 1);
        y.bar(0, 0, 1);
        check.due("cost as a", y.best(0, 1, 1, 0) * 10 + y.best(0, 1, 1, 1), 34);
        check.due("cost as b", y.best(1, 0, 1, 0) * 10 + y.best(1, 0, 1, 2), 34);
        y.song(1, 0, 2, 100, 0);
        check.due("the other ones as a", y.best(0, 1, 1, 0) * 10 + y.best(0, 1, 1, 1), 3);
        check.due("the other ones as b", y.best(1, 0, 1, 0) * 10 + y.best(1, 0, 1, 2), 1);
    }

    private static void bestGreatestPThenLeastQ() {
        MixDesk x = check.desk("III: of several with the greatest p, then the least q");
        x.song(0, 0, 64, 100, 0);
        x.song(1, 0, 64, 100, 0);
        for (int phrase : new int[] {1, 4, 5, 16}) {
            x.about(0, 0, 0, phrase);
            x.about(1, 0, 0, phrase);
            for (int n = 1; n <= 8; n++) {
                check.due("p of " + n, x.best(0, 1, n, 1), (64 - n) / phrase * phrase);
                check.due("q of " + n, x.best(0, 1, n, 2), 0);
            }
        }
        x.about(0, 0, 0, 1);
        x.about(1, 0, 0, 1);
        x.bar(0, 62, 3);
        x.bar(1, 0, 3);
        x.bar(1, 2, 1);
        check.due("the last one alone", x.best(0, 1, 1, 1) * 100 + x.best(0, 1, 1, 2), 6301);
        check.due("two", x.best(0, 1, 2, 1) * 100 + x.best(0, 1, 2, 2), 6003);
        // each BAR of a sounds like the same one of b alone
        MixDesk y = check.desk("III: the greatest p, though a lesser one has a lesser q");
        y.song(0, 2, 8, 100, 4);
        y.song(1, 2, 8, 100, 4);
        y.about(0, 0, 0, 1);
        y.about(1, 0, 0, 1);
        check.due("cost", y.best(0, 1, 1, 0), 0);
        check.due("p and q", y.best(0, 1, 1, 1) * 10 + y.best(0, 1, 1, 2), 77);
    }

    private static void bestPhrasesAsked() {
        MixDesk x = check.deskOf("III: of all that hold (PHRASES asked)", 100, 100);
        x.about(0, 0, 0, 16);
        x.about(1, 0, 0, 16);
        check.due("p", x.best(0, 1, 1, 1), 0);
        check.due("q", x.best(0, 1, 1, 2), 0);
        x.bar(0, 0, 3);
        check.due("where none begins there is none", x.best(0, 1, 1, 0), -1);
        x.about(0, 0, 0, 1);
        check.due("where each begins", x.best(0, 1, 7, 1), 1);
        x.bar(1, 0, 3);
        check.due("none in b", x.best(0, 1, 1, 0), -1);
        x.about(1, 0, 0, 7);
        check.due("the second one", x.best(0, 1, 1, 2), 7);
    }

    private static void bestHolds() {
        MixDesk x = check.deskOf("III: of all that hold: none of its BENDS is above BOUND", 108, 100);
        check.due("at BOUND", x.best(0, 1, 1, 0), 32);
        x.costs(79, 10, 5);
        check.due("above BOUND", x.best(0, 1, 1, 0), -1);
        x.costs(80, 10, 5);
        check.due("at BOUND", x.best(0, 1, 1, 0), 32);
        MixDesk y = check.desk("III: of all that hold, though one that does not costs less");
        // PHRASES begin with BEATS of 144 142 141 140, and at BAR 16 of 64 62 61 60, that are bent up to 500
        y.song(0, 2, 64, 144, -20);
        y.song(1, 0, 4, 100, 0);
        y.about(0, 0, 0, 16);
        y.costs(500, 10, 5);
        check.due("all hold", y.best(0, 1, 1, 0) * 100 + y.best(0, 1, 1, 1), 15316);
        y.costs(499, 10, 5);
        check.due("the cheaper one does not", y.best(0, 1, 1, 0) * 100 + y.best(0, 1, 1, 1), 16700);
        MixDesk z = check.desk("III: of all that hold, though one that does not has a greater p");
        // BAR 0 lasts 110 90 110 90, BARS 2 and 3 90 110 90 110: against 101 each costs 40
        z.song(0, 1, 4, 100, 10);
        z.song(1, 0, 4, 101, 0);
        z.about(0, 0, 0, 1);
        z.bar(0, 1, 1);
        z.costs(108, 10, 5);
        check.due("all hold", z.best(0, 1, 1, 0) * 100 + z.best(0, 1, 1, 1), 4003);
        z.costs(107, 10, 5);
        check.due("the short beats first do not", z.best(0, 1, 1, 0) * 100 + z.best(0, 1, 1, 1), 4000);
    }

    private static void bestAsToldNow() {
        MixDesk x = check.deskOf("18: THE JOIN of a into b, as they are now", 100, 104);
        check.due("at first", x.best(0, 1, 1, 0), 16);
        check.due("told of is none", x.meets(0, 0), -1);
        x.about(0, 1, 0, 4);
        check.due("about a", x.best(0, 1, 1, 0), 26);
        x.about(1, 1, 0, 4);
        check.due("about b", x.best(0, 1, 1, 0), 16);
        x.bar(0, 4, 1);
        check.due("bar of a", x.best(0, 1, 1, 1), 0);
        x.bar(1, 0, 1);
        check.due("bar of b", x.best(0, 1, 1, 2), 4);
        x.loop(0, 0, 0, 4);
        check.due("loop of a", x.best(0, 1, 1, 1), 3);
        x.loop(1, 3, 3, 2);
        check.due("loop of b", x.best(0, 1, 1, 2), 5);
        x.costs(37, 10, 5);
        check.due("costs", x.best(0, 1, 1, 0), -1);
        x.costs(80, 10, 5);
        x.song(0, 0, 8, 104, 0);
        check.due("a anew", x.best(0, 1, 1, 0), 10);
        x.song(1, 0, 8, 104, 0);
        check.due("b anew", x.best(0, 1, 1, 0), 0);
        x.drop(0);
        check.due("a gone", x.best(0, 1, 1, 0), -1);
    }
}
