/** The boundary cases of SONGS, sentence by sentence: Terms I and promises 1 to 10. The titles are the document's words. */
public final class SongEdgeTest {
    private static final Check check = new Check();
    private static final Refused refused = new Refused(check);

    public static void main(String[] args) {
        none();
        newObjectHasNoSongs();
        newObjectHasNoStrokes();
        newObjectIsItsOwn();
        lastOf512Calls();
        songNumbers();
        songKinds();
        songBars();
        songSteps();
        songEvenMore();
        songSwing();
        songSlope();
        songForgetsAbout();
        songForgetsBarsAndLoop();
        songForgetsMusts();
        songsAllTwelve();
        aboutAtFirst();
        aboutKey();
        aboutHeat();
        aboutPhrase();
        aboutNoneSuch();
        barNumbers();
        barBeats();
        barNoneSuch();
        loopFromAndTo();
        loopTimes();
        loopPlayedBars();
        loopNone();
        loopOneAtMost();
        loopNoneSuch();
        dropNoneSuch();
        dropTakesAll();
        dropTakesMusts();
        ofWhat();
        ofNoneSuch();
        ofMore();
        ofPlayedBars();
        ofBeats();
        ofBrokenBars();
        beatNumbers();
        beatOfLeastAndGreatestSong();
        beatEven();
        beatSwung();
        beatChangingFloor();
        beatChangingNotBelow20();
        beatChangingNotAbove400();
        beatThroughBrokenBars();
        beatWithoutLoop();
        beatNoneSuch();
        playedNumbers();
        playedWhat();
        playedBehindTheLoop();
        playedLastsAsItsBar();
        playedBeats();
        playedNoneSuch();
        lengthOfLeastAndGreatestSong();
        lengthWithLoop();
        lengthNoneSuch();
        check.end();
    }

    private static void none() {
        check.title("NONE = -1: There is none; it is refused");
        check.due("NONE", MixDesk.NONE, -1);
    }

    // ---- promise 1

    private static void newObjectHasNoSongs() {
        MixDesk x = check.desk("1: No SONGS");
        for (int s = 0; s < 12; s++) {
            for (int what = 0; what < 10; what++) {
                check.due("of", x.of(s, what), -1000);
            }
            check.due("about", x.about(s, 0, 0, 4), false);
            check.due("bar", x.bar(s, 0, 4), false);
            check.due("loop", x.loop(s, 0, 0, 1), false);
            check.due("drop", x.drop(s), false);
            check.due("beat", x.beat(s, 0), -1);
            check.due("played", x.played(s, 0, 0), -1);
            check.due("length", x.length(s), -1);
            check.due("join", x.join(s, 11 - s, 1, 0, 0, false), -1);
            check.due("best", x.best(s, 11 - s, 1, 0), -1);
            check.due("must", x.must(s, 11 - s, 0), false);
        }
        for (int n = 1; n <= 8; n++) {
            check.due("night", x.night(n), -1);
        }
        check.due("no join was told of", x.meets(0, 0), -1);
        check.due("no night was told", x.order(0), -1);
    }

    private static void newObjectHasNoStrokes() {
        MixDesk x = check.desk("1: no STROKES");
        check.due("find", x.find(100, 0, 0), -1);
        check.due("found", x.found(0), -1);
        check.due("clear", x.clear(), 0);
        check.due("the first one", x.stroke(0), 1);
    }

    private static void newObjectIsItsOwn() {
        MixDesk x = check.desk("1: a new object beside one that was told much");
        x.song(0, 0, 4, 100, 0);
        x.song(1, 0, 4, 150, 0);
        x.costs(1000, 0, 0);
        x.stroke(5);
        x.find(100, 0, 0);
        x.join(0, 1, 1, 0, 0, false);
        x.must(1, 0, 1);
        x.night(1);
        MixDesk y = new MixDesk();
        check.due("of", y.of(0, 0), -1000);
        check.due("clear", y.clear(), 0);
        check.due("found", y.found(0), -1);
        check.due("meets", y.meets(0, 0), -1);
        check.due("order", y.order(0), -1);
        y.song(0, 0, 4, 100, 0);
        y.song(1, 0, 4, 150, 0);
        check.due("BOUND at first", y.join(0, 1, 1, 0, 0, false), -4);
        check.due("the first one's order", x.order(0), 1);
        check.due("the first one's strokes", x.clear(), 1);
    }

    private static void lastOf512Calls() {
        MixDesk x = check.desk("An object is used for at most 512 calls");
        for (int round = 0; round < 101; round++) {
            check.due("song", x.song(round % 12, 0, 64, 100, 0), true);
            check.due("loop", x.loop(round % 12, 0, 63, 1), true);
            check.due("stroke", x.stroke(1000000), 1);
            check.due("clear", x.clear(), 1);
            check.due("drop", x.drop(round % 12), true);
        }
        check.due("call 506", x.song(0, 0, 4, 100, 0), true);
        check.due("call 507", x.song(1, 0, 4, 104, 0), true);
        check.due("call 508", x.stroke(3), 1);
        check.due("call 509", x.find(100, 0, 0), 0);
        check.due("call 510", x.join(0, 1, 1, 0, 0, true), 16);
        check.due("call 511", x.night(4), 64);
        check.due("call 512", x.order(1), 1);
    }

    // ---- promise 2

    private static void songNumbers() {
        MixDesk x = check.desk("I: SONGS 0 .. 11");
        check.due("song 0", x.song(0, 0, 3, 30, 0), true);
        check.due("song 11", x.song(11, 0, 5, 50, 0), true);
        check.due("song 0", x.of(0, 1), 3);
        check.due("song 11", x.of(11, 1), 5);
        for (int s : Refused.outside(0, 11)) {
            refused.isFalse("song " + s, d -> d.song(s, 0, 4, 100, 0));
        }
    }

    private static void songKinds() {
        MixDesk x = check.desk("I: KIND 0 EVEN, 1 SWUNG, 2 CHANGING");
        for (int kind = 0; kind <= 2; kind++) {
            check.due("kind " + kind, x.song(0, kind, 4, 100, 16), true);
            check.due("kind " + kind, x.of(0, 0), kind);
            check.due("kind " + kind, x.beat(0, 2) - x.beat(0, 1), new int[] {100, 84, 101}[kind]);
        }
        for (int kind : Refused.outside(0, 2)) {
            refused.isFalse("kind " + kind, d -> d.song(1, kind, 4, 100, 0));
            refused.isFalse("kind " + kind + " anew", d -> d.song(5, kind, 4, 100, 0));
        }
    }

    private static void songBars() {
        MixDesk x = check.desk("I: 2 to 64 BARS of 4 BEATS");
        for (int kind = 0; kind <= 2; kind++) {
            check.due("2 bars", x.song(0, kind, 2, 100, 0), true);
            check.due("2 bars", x.of(0, 1), 2);
            check.due("2 bars' beats", x.of(0, 8), 8);
            check.due("64 bars", x.song(0, kind, 64, 100, 0), true);
            check.due("64 bars", x.of(0, 1), 64);
            check.due("64 bars' beats", x.of(0, 8), 256);
            int asked = kind;
            for (int bars : Refused.outside(2, 64)) {
                refused.isFalse("bars " + bars, d -> d.song(1, asked, bars, 100, 0));
            }
        }
        refused.isFalse("no bars", d -> d.song(1, 0, 0, 100, 0));
    }

    private static void songSteps() {
        MixDesk x = check.desk("I: STEP ticks (20 .. 400)");
        for (int kind = 0; kind <= 2; kind++) {
            for (int step : new int[] {20, 21, 399, 400}) {
                check.due("step " + step, x.song(0, kind, 2, step, 0), true);
                check.due("step " + step, x.of(0, 2), step);
                check.due("step " + step, x.beat(0, 1), step);
            }
            int asked = kind;
            for (int step : Refused.outside(20, 400)) {
                refused.isFalse("step " + step, d -> d.song(1, asked, 4, step, 0));
            }
        }
    }

    private static void songEvenMore() {
        MixDesk x = check.desk("2: KIND 0: more is not looked at");
        for (int more : new int[] {Integer.MIN_VALUE, -21, -1, 0, 21, 391, Integer.MAX_VALUE}) {
            check.due("more " + more, x.song(0, 0, 4, 100, more), true);
            check.due("more " + more, x.beat(0, 16), 1600);
        }
    }

    private static void songSwing() {
        MixDesk x = check.desk("I: SWING (0 .. STEP - 10)");
        for (int step : new int[] {20, 21, 100, 399, 400}) {
            for (int swing : new int[] {0, 1, step - 11, step - 10}) {
                check.due("swing " + swing + " of " + step, x.song(0, 1, 4, step, swing), true);
                check.due("swing " + swing + " of " + step, x.of(0, 3), swing);
                check.due("swing " + swing + " of " + step, x.beat(0, 1), step + swing);
            }
            for (int swing : Refused.outside(0, step - 10)) {
                refused.isFalse("swing " + swing + " of " + step, d -> d.song(1, 1, 4, step, swing));
            }
        }
    }

    private static void songSlope() {
        MixDesk x = check.desk("I: SLOPE -20 .. 20");
        for (int slope : new int[] {-20, -19, -1, 0, 1, 19, 20}) {
            check.due("slope " + slope, x.song(0, 2, 8, 100, slope), true);
            check.due("slope " + slope, x.of(0, 3), slope);
            check.due("slope " + slope, x.beat(0, 17) - x.beat(0, 16), 100 + slope);
        }
        for (int slope : Refused.outside(-20, 20)) {
            refused.isFalse("slope " + slope, d -> d.song(2, 2, 8, 100, slope));
        }
    }

    private static void songForgetsAbout() {
        MixDesk x = check.desk("2: what was told of it goes: KEY, HEAT, PHRASE");
        x.song(0, 0, 8, 100, 0);
        x.song(1, 0, 8, 100, 0);
        x.about(0, 23, 9, 16);
        x.about(1, 22, 8, 15);
        check.due("anew", x.song(0, 0, 8, 100, 0), true);
        check.due("key", x.of(0, 4), 0);
        check.due("heat", x.of(0, 5), 0);
        check.due("phrase", x.of(0, 6), 4);
        check.due("the other one's", x.of(1, 4) * 10000 + x.of(1, 5) * 100 + x.of(1, 6), 220815);
    }

    private static void songForgetsBarsAndLoop() {
        MixDesk x = check.desk("2: what was told of it goes: BROKEN BARS, the LOOP");
        for (int s = 0; s < 2; s++) {
            x.song(s, 2, 8, 100, 16);
            x.bar(s, 0, 1);
            x.bar(s, 7, 3);
            x.loop(s, 1, 2, 4);
        }
        check.due("anew", x.song(0, 0, 8, 100, 0), true);
        check.due("kind", x.of(0, 0), 0);
        check.due("more", x.of(0, 3), 0);
        check.due("played bars", x.of(0, 7), 8);
        check.due("beats", x.of(0, 8), 32);
        check.due("broken bars", x.of(0, 9), 0);
        check.due("length", x.length(0), 3200);
        check.due("the other one's", x.of(1, 7) * 1000 + x.of(1, 8) * 10 + x.of(1, 9), 14 * 1000 + 28 * 10 + 2);
        check.due("fewer bars anew", x.song(1, 0, 2, 100, 0), true);
        check.due("played bars", x.of(1, 7), 2);
        check.due("beats", x.of(1, 8), 8);
    }

    private static void songForgetsMusts() {
        check.desk("2: MUSTS too");
        for (int high : new int[] {1, 11}) {
            for (int anew : new int[] {0, high}) {
                MixDesk x = new MixDesk();
                x.song(0, 0, 4, 100, 0);
                x.song(high, 0, 4, 100, 0);
                x.must(high, 0, 1);
                check.due("must", x.night(1) + x.order(0), high);
                x.song(anew, 0, 4, 100, 0);
                check.due("must of " + anew, x.night(1) + x.order(0), 0);
                x.must(0, high, 2);
                check.due("must not", x.night(1) + x.order(0), high);
                x.song(anew, 0, 4, 100, 0);
                check.due("must not of " + anew, x.night(1) + x.order(0), 0);
            }
        }
        MixDesk x = new MixDesk();
        for (int s = 0; s < 3; s++) {
            x.song(s, 0, 4, 100, 0);
        }
        x.must(2, 1, 1);
        x.must(0, 2, 2);
        x.song(0, 0, 4, 100, 0);
        check.due("those of others stay", x.night(1) + x.order(0) * 100 + x.order(1) * 10 + x.order(2), 21);
    }

    private static void songsAllTwelve() {
        MixDesk x = check.desk("I: SONGS 0 .. 11, all of them there");
        for (int s = 0; s < 12; s++) {
            check.due("song " + s, x.song(s, 0, 2 + s, 100 + s, 0), true);
        }
        for (int s = 0; s < 12; s++) {
            check.due("bars of " + s, x.of(s, 1), 2 + s);
            check.due("step of " + s, x.of(s, 2), 100 + s);
        }
        check.due("a thirteenth", x.song(12, 0, 4, 100, 0), false);
        check.due("in the place of one", x.song(11, 0, 4, 100, 0), true);
        check.due("in the place of one", x.of(11, 1), 4);
        check.due("the one beside it", x.of(10, 1), 12);
    }

    // ---- promise 3

    private static void aboutAtFirst() {
        MixDesk x = check.desk("3: KEY, HEAT and PHRASE (0, 0 and 4 at first)");
        for (int kind = 0; kind <= 2; kind++) {
            x.song(kind, kind, 2, 100, 0);
            check.due("key", x.of(kind, 4), 0);
            check.due("heat", x.of(kind, 5), 0);
            check.due("phrase", x.of(kind, 6), 4);
        }
    }

    private static void aboutKey() {
        MixDesk x = check.desk("I: KEY: 0 .. 23");
        x.song(0, 0, 4, 100, 0);
        for (int key : new int[] {23, 22, 1, 0}) {
            check.due("key " + key, x.about(0, key, 0, 4), true);
            check.due("key " + key, x.of(0, 4), key);
        }
        for (int key : Refused.outside(0, 23)) {
            refused.isFalse("key " + key, d -> d.about(1, key, 8, 7));
        }
    }

    private static void aboutHeat() {
        MixDesk x = check.desk("I: HEAT 0 .. 9");
        x.song(0, 0, 4, 100, 0);
        for (int heat : new int[] {9, 8, 1, 0}) {
            check.due("heat " + heat, x.about(0, 0, heat, 4), true);
            check.due("heat " + heat, x.of(0, 5), heat);
        }
        for (int heat : Refused.outside(0, 9)) {
            refused.isFalse("heat " + heat, d -> d.about(1, 8, heat, 7));
        }
    }

    private static void aboutPhrase() {
        MixDesk x = check.desk("I: PHRASE (1 .. 16) BARS");
        x.song(0, 0, 4, 100, 0);
        for (int phrase : new int[] {16, 15, 2, 1}) {
            check.due("phrase " + phrase, x.about(0, 0, 0, phrase), true);
            check.due("phrase " + phrase, x.of(0, 6), phrase);
        }
        for (int phrase : Refused.outside(1, 16)) {
            refused.isFalse("phrase " + phrase, d -> d.about(1, 8, 7, phrase));
        }
    }

    private static void aboutNoneSuch() {
        check.desk("3: false when there is none such");
        for (int s : Refused.outside(0, 11)) {
            refused.isFalse("about " + s, d -> d.about(s, 8, 7, 6));
        }
        refused.isFalse("about one that is not there", d -> d.about(4, 8, 7, 6));
    }

    // ---- promise 4

    private static void barNumbers() {
        MixDesk x = check.desk("4: A BAR, false when there is none such");
        for (int bars : new int[] {2, 3, 64}) {
            x.song(0, 0, bars, 100, 0);
            check.due("the first one of " + bars, x.bar(0, 0, 3), true);
            check.due("the first one of " + bars, x.played(0, 0, 2), 3);
            check.due("the last one of " + bars, x.bar(0, bars - 1, 2), true);
            check.due("the last one of " + bars, x.played(0, bars - 1, 2), 2);
            check.due("both", x.of(0, 8), 4 * bars - 3);
            Refused ofSuch = new Refused(check, d -> d.song(0, 0, bars, 100, 0));
            for (int bar : Refused.outside(0, bars - 1)) {
                ofSuch.isFalse("bar " + bar + " of " + bars, d -> d.bar(0, bar, 3));
            }
        }
        // PLAYED BARS are no BARS
        refused.isFalse("bar 6 of 6 that are 8 when played", d -> d.bar(1, 6, 1));
        refused.isFalse("bar 7 of 6 that are 8 when played", d -> d.bar(1, 7, 1));
    }

    private static void barBeats() {
        MixDesk x = check.desk("4: so many BEATS (1 .. 4)");
        x.song(0, 0, 2, 100, 0);
        for (int beats = 1; beats <= 4; beats++) {
            check.due("beats " + beats, x.bar(0, 0, beats), true);
            check.due("beats " + beats, x.of(0, 8), 4 + beats);
            check.due("broken with " + beats, x.of(0, 9), beats < 4 ? 1 : 0);
        }
        for (int beats : Refused.outside(1, 4)) {
            refused.isFalse("beats " + beats, d -> d.bar(1, 2, beats));
            refused.isFalse("beats " + beats + " of a broken one", d -> d.bar(1, 3, beats));
        }
    }

    private static void barNoneSuch() {
        check.desk("4: false when there is no such SONG");
        for (int s : Refused.outside(0, 11)) {
            refused.isFalse("bar of " + s, d -> d.bar(s, 0, 3));
        }
        refused.isFalse("bar of one that is not there", d -> d.bar(4, 0, 3));
    }

    // ---- promise 5

    private static void loopFromAndTo() {
        MixDesk x = check.desk("I: BARS from a to b (a up to b)");
        for (int bars : new int[] {2, 3, 16}) {
            x.song(0, 0, bars, 100, 0);
            check.due("from the first one to the last one", x.loop(0, 0, bars - 1, 2), true);
            check.due("played", x.of(0, 7), 2 * bars);
            check.due("the first one alone", x.loop(0, 0, 0, 2), true);
            check.due("played", x.of(0, 7), bars + 1);
            check.due("the last one alone", x.loop(0, bars - 1, bars - 1, 2), true);
            check.due("played", x.of(0, 7), bars + 1);
            Refused ofSuch = new Refused(check, d -> {
                d.song(0, 0, bars, 100, 0);
                d.loop(0, 1, 1, 3);
            });
            ofSuch.isFalse("from -1", d -> d.loop(0, -1, 0, 2));
            ofSuch.isFalse("from far below", d -> d.loop(0, Integer.MIN_VALUE, 0, 2));
            ofSuch.isFalse("to one behind the last", d -> d.loop(0, 0, bars, 2));
            ofSuch.isFalse("the one behind the last alone", d -> d.loop(0, bars, bars, 2));
            ofSuch.isFalse("to far above", d -> d.loop(0, 0, Integer.MAX_VALUE, 2));
            ofSuch.isFalse("from far below to far above", d -> d.loop(0, Integer.MIN_VALUE, Integer.MAX_VALUE, 2));
            ofSuch.isFalse("b and 1 down to b", d -> d.loop(0, 1, 0, 2));
            ofSuch.isFalse("the last one down to the first one", d -> d.loop(0, bars - 1, 0, 2));
        }
        refused.isFalse("to a PLAYED BAR that is no BAR", d -> d.loop(1, 0, 6, 2));
    }

    private static void loopTimes() {
        MixDesk x = check.desk("I: n (1 .. 4) times in all");
        x.song(0, 0, 6, 100, 0);
        for (int n = 1; n <= 4; n++) {
            check.due("times " + n, x.loop(0, 1, 2, n), true);
            check.due("times " + n, x.of(0, 7), 4 + 2 * n);
            check.due("times " + n, x.length(0), 400 * (4 + 2 * n));
        }
        for (int n : Refused.outside(1, 4)) {
            refused.isFalse("times " + n, d -> d.loop(1, 2, 3, n));
        }
    }

    private static void loopPlayedBars() {
        MixDesk x = check.desk("5: false when there would be more than 64 PLAYED BARS");
        int[][] full = {{16, 0, 15, 4}, {32, 0, 31, 2}, {61, 60, 60, 4}, {62, 0, 0, 3}, {63, 30, 30, 2}, {33, 1, 31, 2},
            {22, 0, 20, 3}, {64, 0, 63, 1}, {64, 0, 0, 1}};
        for (int[] call : full) {
            x.song(0, 0, call[0], 100, 0);
            check.due("64 of " + call[0], x.loop(0, call[1], call[2], call[3]), true);
            check.due("64 of " + call[0], x.of(0, 7), 64);
            check.due("the last one", x.played(0, 63, 0), call[0] - 1);
            check.due("behind it", x.played(0, 64, 0), -1);
        }
        int[][] over = {{17, 1, 16, 4}, {33, 0, 31, 2}, {62, 61, 61, 4}, {63, 0, 0, 3}, {64, 30, 30, 2}, {64, 0, 63, 2},
            {64, 0, 63, 4}, {23, 0, 20, 3}};
        for (int[] call : over) {
            Refused ofSuch = new Refused(check, d -> d.song(0, 0, call[0], 100, 0));
            ofSuch.isFalse("more than 64 of " + call[0], d -> d.loop(0, call[1], call[2], call[3]));
        }
    }

    private static void loopNone() {
        MixDesk x = check.desk("5: n 1: none");
        x.song(0, 0, 4, 100, 0);
        x.loop(0, 1, 2, 3);
        check.due("none", x.loop(0, 0, 3, 1), true);
        check.due("played", x.of(0, 7), 4);
        for (int p = 0; p < 4; p++) {
            check.due("bar at " + p, x.played(0, p, 0), p);
        }
        check.due("none again", x.loop(0, 3, 3, 1), true);
        check.due("length", x.length(0), 1600);
    }

    private static void loopOneAtMost() {
        MixDesk x = check.desk("I: A SONG has one LOOP at most");
        x.song(0, 0, 40, 100, 0);
        check.due("64 in all", x.loop(0, 0, 11, 3), true);
        check.due("64 in all again, in its place", x.loop(0, 28, 39, 3), true);
        check.due("played", x.of(0, 7), 64);
        check.due("the first one is gone", x.played(0, 12, 0), 12);
        check.due("the second one is there", x.played(0, 40, 0), 28);
    }

    private static void loopNoneSuch() {
        check.desk("5: false when there is no such SONG");
        for (int s : Refused.outside(0, 11)) {
            refused.isFalse("loop of " + s, d -> d.loop(s, 0, 1, 2));
        }
        refused.isFalse("loop of one that is not there", d -> d.loop(4, 0, 1, 2));
        refused.isFalse("none of one that is not there", d -> d.loop(4, 0, 0, 1));
    }

    // ---- promise 6

    private static void dropNoneSuch() {
        check.desk("6: false when there is none such");
        for (int s : Refused.outside(0, 11)) {
            refused.isFalse("drop " + s, d -> d.drop(s));
        }
        refused.isFalse("drop one that is not there", d -> d.drop(4));
        new Refused(check, d -> {
            d.song(0, 0, 4, 100, 0);
            d.song(1, 0, 4, 100, 0);
            d.drop(0);
        }).isFalse("drop one that has gone", d -> d.drop(0));
    }

    private static void dropTakesAll() {
        MixDesk x = check.desk("6: SONG s goes");
        for (int s : new int[] {0, 11}) {
            x.song(s, 0, 4, 100, 0);
            check.due("join", x.best(s, 11 - s, 1, 0), s == 0 ? -1 : 0);
        }
        for (int s : new int[] {11, 0}) {
            check.due("drop " + s, x.drop(s), true);
            check.due("of", x.of(s, 1), -1000);
            check.due("beat", x.beat(s, 0), -1);
            check.due("played", x.played(s, 0, 0), -1);
            check.due("length", x.length(s), -1);
            check.due("about", x.about(s, 0, 0, 4), false);
            check.due("bar", x.bar(s, 0, 4), false);
            check.due("loop", x.loop(s, 0, 0, 1), false);
            check.due("join", x.join(0, 11, 1, 0, 0, false), -1);
            check.due("best", x.best(11, 0, 1, 0), -1);
            check.due("must", x.must(0, 11, 1), false);
            check.due("night of the one that is left, then of none", x.night(1), s == 11 ? 0 : -1);
        }
    }

    private static void dropTakesMusts() {
        check.desk("6: SONG s goes, and 2: MUSTS too when it comes anew");
        for (int how = 1; how <= 2; how++) {
            for (int gone : new int[] {0, 1, 2}) {
                MixDesk x = new MixDesk();
                for (int s = 0; s < 3; s++) {
                    x.song(s, 0, 4, 100, 0);
                }
                x.must(how == 1 ? 1 : 0, how == 1 ? 0 : 1, how);
                x.drop(gone);
                check.due("two are left", x.night(1), 0);
                check.due("their order", x.order(0) * 10 + x.order(1), new int[] {12, 2, 10}[gone]);
                x.song(gone, 0, 4, 100, 0);
                check.due("all again", x.night(1), 0);
                int order = x.order(0) * 100 + x.order(1) * 10 + x.order(2);
                check.due("all again", order, gone < 2 ? 12 : how == 1 ? 102 : 21);
            }
        }
    }

    // ---- promise 7

    private static void ofWhat() {
        check.desk("7: -1000 for others");
        for (int what : Refused.outside(0, 9)) {
            refused.answers("what " + what, d -> d.of(1, what), -1000);
        }
        MixDesk x = new MixDesk();
        x.song(0, 2, 9, 300, -20);
        x.about(0, 23, 9, 16);
        x.bar(0, 8, 1);
        x.loop(0, 0, 1, 4);
        int[] due = {2, 9, 300, -20, 23, 9, 16, 15, 33, 1};
        for (int what = 0; what < due.length; what++) {
            check.due("what " + what, x.of(0, what), due[what]);
        }
    }

    private static void ofNoneSuch() {
        check.desk("7: -1000 when there is none such");
        for (int s : Refused.outside(0, 11)) {
            refused.answers("of " + s, d -> d.of(s, 0), -1000);
        }
        for (int what = 0; what < 10; what++) {
            int asked = what;
            refused.answers("of one that is not there", d -> d.of(4, asked), -1000);
        }
    }

    private static void ofMore() {
        MixDesk x = check.desk("7: SWING or SLOPE (0 of KIND 0)");
        for (int more : new int[] {Integer.MIN_VALUE, -1, 1, 10, Integer.MAX_VALUE}) {
            x.song(0, 0, 4, 100, more);
            check.due("even", x.of(0, 3), 0);
        }
    }

    private static void ofPlayedBars() {
        MixDesk x = check.desk("7: PLAYED BARS");
        x.song(0, 0, 2, 100, 0);
        check.due("the fewest", x.of(0, 7), 2);
        x.loop(0, 0, 1, 4);
        check.due("with the loop", x.of(0, 7), 8);
        x.song(0, 0, 64, 100, 0);
        check.due("the most", x.of(0, 7), 64);
        x.bar(0, 0, 1);
        check.due("a broken one is one too", x.of(0, 7), 64);
    }

    private static void ofBeats() {
        MixDesk x = check.desk("7: BEATS (of its BARS)");
        x.song(0, 0, 2, 100, 0);
        x.bar(0, 0, 1);
        x.bar(0, 1, 1);
        check.due("the fewest", x.of(0, 8), 2);
        x.loop(0, 0, 1, 4);
        check.due("its BARS', not its PLAYED BARS'", x.of(0, 8), 2);
        x.song(0, 0, 64, 100, 0);
        check.due("the most", x.of(0, 8), 256);
    }

    private static void ofBrokenBars() {
        MixDesk x = check.desk("I: a BROKEN BAR has 1 to 3");
        x.song(0, 0, 64, 100, 0);
        check.due("none", x.of(0, 9), 0);
        for (int bar = 0; bar < 64; bar++) {
            x.bar(0, bar, 1 + bar % 3);
            check.due("so many", x.of(0, 9), bar + 1);
        }
        check.due("all, and their beats", x.of(0, 8), 21 * 6 + 1);
        for (int bar = 0; bar < 64; bar++) {
            x.bar(0, bar, 4);
            check.due("so many are left", x.of(0, 9), 63 - bar);
        }
        x.song(0, 0, 4, 100, 0);
        x.bar(0, 1, 3);
        x.loop(0, 1, 1, 4);
        check.due("one BAR, however often it is played", x.of(0, 9), 1);
    }

    // ---- promise 8

    private static void beatNumbers() {
        MixDesk x = check.desk("8: k up to how many there are: its end");
        x.song(0, 0, 4, 100, 0);
        for (int k = 0; k <= 16; k++) {
            check.due("beat " + k, x.beat(0, k), 100 * k);
        }
        for (int k : Refused.outside(0, 16)) {
            refused.isNone("beat " + k, d -> d.beat(0, k));
        }
    }

    private static void beatOfLeastAndGreatestSong() {
        MixDesk x = check.desk("8: the end of the least SONG and of the greatest");
        x.song(0, 0, 2, 20, 0);
        x.bar(0, 0, 1);
        x.bar(0, 1, 1);
        int[] least = {-1, 0, 20, 40, -1};
        for (int i = 0; i < least.length; i++) {
            check.due("beat " + (i - 1), x.beat(0, i - 1), least[i]);
        }
        x.song(0, 0, 64, 400, 0);
        check.due("the last one", x.beat(0, 255), 102000);
        check.due("the end", x.beat(0, 256), 102400);
        check.due("behind it", x.beat(0, 257), -1);
    }

    private static void beatEven() {
        MixDesk x = check.desk("I: KIND 0 EVEN: STEP ticks");
        for (int step : new int[] {20, 400}) {
            x.song(0, 0, 64, step, 19);
            for (int k : new int[] {1, 2, 3, 255, 256}) {
                check.due("beat " + k, x.beat(0, k), step * k);
            }
        }
    }

    private static void beatSwung() {
        MixDesk x = check.desk("I: STEP and SWING for k even, STEP less SWING for k odd");
        x.song(0, 1, 2, 100, 0);
        x.song(1, 1, 2, 100, 1);
        x.song(2, 1, 2, 400, 390);
        x.song(3, 1, 2, 20, 10);
        int[][] due = {{0, 100, 200, 300}, {0, 101, 200, 301}, {0, 790, 800, 1590}, {0, 30, 40, 70}};
        for (int s = 0; s < 4; s++) {
            for (int k = 0; k < 4; k++) {
                check.due("beat " + k + " of " + s, x.beat(s, k), due[s][k]);
            }
        }
    }

    /** How long BEAT k lasts. */
    private static int lasts(MixDesk x, int k) {
        return x.beat(0, k + 1) - x.beat(0, k);
    }

    private static void beatChangingFloor() {
        MixDesk x = check.desk("I: STEP and floor(k times SLOPE / 16)");
        x.song(0, 2, 64, 100, 1);
        int[][] up = {{0, 100}, {1, 100}, {15, 100}, {16, 101}, {31, 101}, {32, 102}, {255, 115}};
        for (int[] row : up) {
            check.due("up, beat " + row[0], lasts(x, row[0]), row[1]);
        }
        x.song(0, 2, 64, 100, -1);
        int[][] down = {{0, 100}, {1, 99}, {15, 99}, {16, 99}, {17, 98}, {32, 98}, {33, 97}, {255, 84}};
        for (int[] row : down) {
            check.due("down, beat " + row[0], lasts(x, row[0]), row[1]);
        }
        x.song(0, 2, 64, 100, 0);
        check.due("neither", lasts(x, 255), 100);
    }

    private static void beatChangingNotBelow20() {
        MixDesk x = check.desk("I: but 20 .. 400 at any time (less is 20)");
        x.song(0, 2, 2, 21, -16);
        check.due("21", lasts(x, 0), 21);
        check.due("20", lasts(x, 1), 20);
        check.due("19 is 20", lasts(x, 2), 20);
        check.due("14 is 20", lasts(x, 7), 20);
        x.song(0, 2, 64, 20, -20);
        check.due("all of them", x.beat(0, 256), 5120);
        // the last BEAT of 64 BARS lasts floor(255 -20 / 16) = -319 less
        int[][] last = {{340, 21}, {339, 20}, {338, 20}, {400, 81}};
        for (int[] row : last) {
            x.song(0, 2, 64, row[0], -20);
            check.due("the last one from " + row[0], lasts(x, 255), row[1]);
        }
    }

    private static void beatChangingNotAbove400() {
        MixDesk x = check.desk("I: but 20 .. 400 at any time (more is 400)");
        x.song(0, 2, 2, 399, 16);
        check.due("399", lasts(x, 0), 399);
        check.due("400", lasts(x, 1), 400);
        check.due("401 is 400", lasts(x, 2), 400);
        check.due("406 is 400", lasts(x, 7), 400);
        x.song(0, 2, 64, 400, 20);
        check.due("all of them", x.beat(0, 256), 102400);
        // the last BEAT of 64 BARS lasts floor(255 20 / 16) = 318 more
        int[][] last = {{81, 399}, {82, 400}, {83, 400}, {20, 338}};
        for (int[] row : last) {
            x.song(0, 2, 64, row[0], 20);
            check.due("the last one from " + row[0], lasts(x, 255), row[1]);
        }
    }

    private static void beatThroughBrokenBars() {
        MixDesk x = check.desk("I: BEATS are numbered from 0 on through all BARS");
        x.song(0, 1, 4, 100, 40);
        x.bar(0, 0, 1);
        x.bar(0, 2, 3);
        // BARS of 1, 4, 3 and 4 BEATS begin with BEATS 0, 1, 5 and 8
        int[] begins = {0, 140, 140 + 2 * 200, 800};
        for (int bar = 0; bar < 4; bar++) {
            check.due("bar " + bar, x.played(0, bar, 1), begins[bar]);
        }
        check.due("beat 1", x.beat(0, 1), 140);
        check.due("beat 11", x.beat(0, 11), 1140);
        check.due("the end", x.beat(0, 12), 1200);
        check.due("behind it", x.beat(0, 13), -1);
        x.bar(0, 0, 4);
        check.due("one more once it is whole", x.beat(0, 15), 1540);
        check.due("behind it", x.beat(0, 16), -1);
    }

    private static void beatWithoutLoop() {
        MixDesk x = check.desk("8: from the SONG's beginning, without LOOP");
        x.song(0, 0, 4, 100, 0);
        x.loop(0, 0, 1, 4);
        check.due("behind the loop", x.beat(0, 8), 800);
        check.due("its end", x.beat(0, 16), 1600);
        check.due("behind it", x.beat(0, 17), -1);
    }

    private static void beatNoneSuch() {
        check.desk("8: NONE when there is none such");
        for (int s : Refused.outside(0, 11)) {
            refused.isNone("beat of " + s, d -> d.beat(s, 0));
        }
        refused.isNone("beat of one that is not there", d -> d.beat(4, 0));
    }

    // ---- promise 9

    private static void playedNumbers() {
        MixDesk x = check.desk("9: PLAYED BAR p, numbered anew from 0 on");
        x.song(0, 0, 2, 100, 0);
        check.due("the first one", x.played(0, 0, 0), 0);
        check.due("the last one", x.played(0, 1, 0), 1);
        for (int what = 0; what < 3; what++) {
            for (int p : Refused.outside(0, 7)) {
                int asked = what;
                refused.isNone("bar " + p + " of 8", d -> d.played(1, p, asked));
            }
            for (int p : Refused.outside(0, 3)) {
                int asked = what;
                refused.isNone("bar " + p + " of 4", d -> d.played(0, p, asked));
            }
        }
    }

    private static void playedWhat() {
        check.desk("9: NONE for others");
        for (int what : Refused.outside(0, 2)) {
            refused.isNone("what " + what, d -> d.played(1, 0, what));
        }
    }

    private static void playedBehindTheLoop() {
        MixDesk x = check.desk("I: n times in all; behind it BARS go on with b and 1");
        x.song(0, 0, 5, 100, 0);
        int[][] loops = {{0, 0, 2}, {0, 1, 3}, {4, 4, 4}, {0, 4, 2}, {2, 3, 4}, {3, 4, 2}, {1, 3, 1}};
        String[] due = {"001234", "010101234", "01234444", "0123401234", "01232323234", "0123434", "01234"};
        for (int i = 0; i < loops.length; i++) {
            x.loop(0, loops[i][0], loops[i][1], loops[i][2]);
            StringBuilder row = new StringBuilder();
            for (int p = 0; p < x.of(0, 7); p++) {
                row.append(x.played(0, p, 0));
                check.due("begins at " + p, x.played(0, p, 1), 400 * p);
            }
            check.due("loop " + due[i] + " was played as " + row, row.toString().equals(due[i]), true);
            check.due("behind its end", x.played(0, due[i].length(), 0), -1);
        }
    }

    private static void playedLastsAsItsBar() {
        MixDesk x = check.desk("I: its BEATS last as long as that BAR's");
        x.song(0, 2, 2, 100, 16);
        x.loop(0, 0, 1, 2);
        // BAR 0 lasts 100 101 102 103, BAR 1 104 105 106 107, however often
        int[] begins = {0, 406, 828, 1234};
        for (int p = 0; p < 4; p++) {
            check.due("begins at " + p, x.played(0, p, 1), begins[p]);
        }
        x.song(0, 1, 2, 100, 50);
        x.bar(0, 0, 1);
        x.loop(0, 0, 0, 3);
        // BEAT 0 lasts 150 three times; BEATS 1 to 4 of BAR 1 are 50 150 50 150
        check.due("begins at 3", x.played(0, 3, 1), 450);
        check.due("ends", x.length(0), 850);
    }

    private static void playedBeats() {
        MixDesk x = check.desk("9: its BEATS (2)");
        x.song(0, 0, 4, 100, 0);
        for (int bar = 0; bar < 4; bar++) {
            x.bar(0, bar, bar + 1);
        }
        x.loop(0, 0, 3, 2);
        for (int p = 0; p < 8; p++) {
            check.due("beats of " + p, x.played(0, p, 2), p % 4 + 1);
        }
    }

    private static void playedNoneSuch() {
        check.desk("9: NONE when there is no such SONG");
        for (int s : Refused.outside(0, 11)) {
            refused.isNone("played of " + s, d -> d.played(s, 0, 0));
        }
        refused.isNone("played of one that is not there", d -> d.played(4, 0, 1));
    }

    // ---- promise 10

    private static void lengthOfLeastAndGreatestSong() {
        MixDesk x = check.desk("10: How long a SONG is, the least and the greatest");
        x.song(0, 0, 2, 20, 0);
        x.bar(0, 0, 1);
        x.bar(0, 1, 1);
        check.due("the least", x.length(0), 40);
        x.song(0, 0, 64, 400, 0);
        check.due("64 bars", x.length(0), 102400);
        // BAR 0 has two long BEATS and a short one, and is played four times; BAR 1 has a short one
        x.song(0, 1, 2, 400, 390);
        x.bar(0, 0, 3);
        x.bar(0, 1, 1);
        x.loop(0, 0, 0, 4);
        check.due("the long ones again and again", x.length(0), 4 * 1590 + 10);
    }

    private static void lengthWithLoop() {
        MixDesk x = check.desk("10: with its LOOP");
        x.song(0, 2, 3, 100, 16);
        check.due("without", x.length(0), 406 + 422 + 438);
        x.loop(0, 2, 2, 4);
        check.due("the last bar", x.length(0), 406 + 422 + 4 * 438);
        x.loop(0, 0, 0, 2);
        check.due("the first bar", x.length(0), 2 * 406 + 422 + 438);
        x.loop(0, 0, 2, 4);
        check.due("all bars", x.length(0), 4 * 1266);
        x.loop(0, 0, 0, 1);
        check.due("none", x.length(0), 1266);
    }

    private static void lengthNoneSuch() {
        check.desk("10: NONE when there is none such");
        for (int s : Refused.outside(0, 11)) {
            refused.isNone("length of " + s, d -> d.length(s));
        }
        refused.isNone("length of one that is not there", d -> d.length(4));
    }
}
