/** Each promise of the document by hand: ordinary inputs, the edges that it names, and calls that are refused. */
public final class PromiseTest {
    private static final Check check = new Check();
    private static final int[] WILD = {Integer.MIN_VALUE, -1000001, -1, 12, 13, 64, 1000001, Integer.MAX_VALUE};

    public static void main(String[] args) {
        newObject();
        song();
        songForgets();
        about();
        bar();
        loop();
        drop();
        of();
        beat();
        played();
        length();
        stroke();
        clear();
        find();
        findTies();
        found();
        costs();
        joinCost();
        joinRefused();
        joinBlend();
        meets();
        best();
        bestFollowsChanges();
        must();
        night();
        nightTies();
        order();
        mend();
        check.end();
    }

    private static void newObject() {
        MixDesk x = check.desk("1 a new object");
        check.due("NONE", MixDesk.NONE, -1);
        for (int s = 0; s < 12; s++) {
            check.due("of", x.of(s, 0), -1000);
            check.due("length", x.length(s), -1);
            check.due("drop", x.drop(s), false);
        }
        check.due("clear", x.clear(), 0);
        check.due("found", x.found(0), -1);
        check.due("meets", x.meets(0, 0), -1);
        check.due("order", x.order(0), -1);
        check.due("night", x.night(1), -1);
        check.due("find", x.find(100, 0, 0), -1);
    }

    private static void song() {
        MixDesk x = check.desk("2 song");
        check.due("least", x.song(0, 0, 2, 20, 0), true);
        check.due("most", x.song(11, 0, 64, 400, 0), true);
        for (int s : WILD) {
            check.due("song " + s, x.song(s, 0, 4, 100, 0), false);
        }
        check.due("bars 1", x.song(0, 0, 1, 100, 0), false);
        check.due("bars 65", x.song(0, 0, 65, 100, 0), false);
        check.due("step 19", x.song(0, 0, 4, 19, 0), false);
        check.due("step 401", x.song(0, 0, 4, 401, 0), false);
        check.due("kind -1", x.song(0, -1, 4, 100, 0), false);
        check.due("kind 3", x.song(0, 3, 4, 100, 0), false);
        check.due("unchanged bars", x.of(0, 1), 2);
        check.due("unchanged step", x.of(0, 2), 20);
        check.due("even, more not looked at", x.song(1, 0, 4, 100, Integer.MIN_VALUE), true);
        check.due("swing 0", x.song(2, 1, 4, 20, 0), true);
        check.due("swing 10", x.song(2, 1, 4, 20, 10), true);
        check.due("swing 11", x.song(2, 1, 4, 20, 11), false);
        check.due("swing -1", x.song(2, 1, 4, 20, -1), false);
        check.due("swing 390", x.song(2, 1, 4, 400, 390), true);
        check.due("slope 20", x.song(3, 2, 4, 100, 20), true);
        check.due("slope 21", x.song(3, 2, 4, 100, 21), false);
        check.due("slope -21", x.song(3, 2, 4, 100, -21), false);
        check.due("unchanged slope", x.of(3, 3), 20);
        check.due("slope -20", x.song(3, 2, 4, 100, -20), true);
    }

    private static void songForgets() {
        MixDesk x = check.deskOf("2 what was told of a song goes", 100, 104, 108);
        x.about(0, 7, 8, 9);
        x.bar(0, 2, 1);
        x.loop(0, 0, 1, 3);
        x.must(0, 2, 1);
        x.must(2, 1, 2);
        check.due("refused, so nothing goes", x.song(0, 0, 1, 100, 0), false);
        check.due("key stays", x.of(0, 4), 7);
        check.due("played bars stay", x.of(0, 7), 12);
        check.due("song 0 anew", x.song(0, 0, 8, 100, 0), true);
        int[] fresh = {0, 8, 100, 0, 0, 0, 4, 8, 32, 0};
        for (int what = 0; what < fresh.length; what++) {
            check.due("of 0 " + what, x.of(0, what), fresh[what]);
        }
        check.due("the must of 0 is gone, the must not of 2 stays", x.night(1), 32);
        check.due("order", x.order(1), 1);
        x.must(1, 2, 2);
        check.due("no way over 1 and 2", x.night(1), 48);
        check.due("song 2 anew", x.song(2, 0, 8, 108, 0), true);
        check.due("the must nots of 2 are gone", x.night(1), 32);
    }

    private static void about() {
        MixDesk x = check.deskOf("3 about", 100);
        check.due("none such", x.about(1, 0, 0, 4), false);
        for (int s : WILD) {
            check.due("about " + s, x.about(s, 0, 0, 4), false);
        }
        check.due("most", x.about(0, 23, 9, 16), true);
        check.due("key 24", x.about(0, 24, 0, 1), false);
        check.due("key -1", x.about(0, -1, 0, 1), false);
        check.due("heat 10", x.about(0, 0, 10, 1), false);
        check.due("heat -1", x.about(0, 0, -1, 1), false);
        check.due("phrase 0", x.about(0, 0, 0, 0), false);
        check.due("phrase 17", x.about(0, 0, 0, 17), false);
        check.due("key", x.of(0, 4), 23);
        check.due("heat", x.of(0, 5), 9);
        check.due("phrase", x.of(0, 6), 16);
        check.due("least", x.about(0, 0, 0, 1), true);
        check.due("key", x.of(0, 4), 0);
        check.due("heat", x.of(0, 5), 0);
        check.due("phrase", x.of(0, 6), 1);
    }

    private static void bar() {
        MixDesk x = check.deskOf("4 bar", 100);
        check.due("none such", x.bar(1, 0, 2), false);
        for (int wild : WILD) {
            check.due("song " + wild, x.bar(wild, 0, 2), false);
            check.due("bar " + wild, x.bar(0, wild, 2), false);
            check.due("beats " + wild, x.bar(0, 0, wild), false);
        }
        check.due("bar 8", x.bar(0, 8, 2), false);
        check.due("beats 0", x.bar(0, 0, 0), false);
        check.due("beats 5", x.bar(0, 0, 5), false);
        check.due("beats", x.of(0, 8), 32);
        check.due("bar 7", x.bar(0, 7, 1), true);
        check.due("beats", x.of(0, 8), 29);
        check.due("bar 0", x.bar(0, 0, 3), true);
        check.due("beats", x.of(0, 8), 28);
        check.due("broken", x.of(0, 9), 2);
        check.due("mended", x.bar(0, 7, 4), true);
        check.due("beats", x.of(0, 8), 31);
        check.due("broken", x.of(0, 9), 1);
        check.due("bars", x.of(0, 1), 8);
    }

    private static void loop() {
        MixDesk x = check.deskOf("5 loop", 100);
        check.due("none such", x.loop(1, 0, 1, 2), false);
        for (int wild : WILD) {
            check.due("song " + wild, x.loop(wild, 0, 1, 2), false);
            check.due("from " + wild, x.loop(0, wild, 1, 2), false);
            check.due("to " + wild, x.loop(0, 0, wild, 2), false);
            check.due("times " + wild, x.loop(0, 0, 1, wild), false);
        }
        check.due("to 8", x.loop(0, 0, 8, 2), false);
        check.due("backward", x.loop(0, 3, 2, 2), false);
        check.due("times 0", x.loop(0, 0, 1, 0), false);
        check.due("times 5", x.loop(0, 0, 1, 5), false);
        check.due("all, 4 times", x.loop(0, 0, 7, 4), true);
        check.due("played", x.of(0, 7), 32);
        check.due("one only", x.loop(0, 2, 2, 2), true);
        check.due("played", x.of(0, 7), 9);
        check.due("refused", x.loop(0, 2, 2, 5), false);
        check.due("still there", x.of(0, 7), 9);
        check.due("no loop where none can be", x.loop(0, 3, 2, 1), false);
        check.due("still there", x.of(0, 7), 9);
        check.due("none", x.loop(0, 7, 7, 1), true);
        check.due("played", x.of(0, 7), 8);
        x.song(1, 0, 16, 100, 0);
        check.due("64 in all", x.loop(1, 0, 15, 4), true);
        check.due("64 in all", x.of(1, 7), 64);
        x.song(1, 0, 17, 100, 0);
        check.due("65 in all", x.loop(1, 0, 15, 4), false);
        check.due("62 in all", x.loop(1, 2, 16, 4), true);
        check.due("62 in all", x.of(1, 7), 62);
        x.song(2, 0, 64, 100, 0);
        check.due("65 in all", x.loop(2, 63, 63, 2), false);
        check.due("64 in all", x.loop(2, 0, 63, 1), true);
    }

    private static void drop() {
        MixDesk x = check.deskOf("6 drop", 100, 104, 108);
        for (int wild : WILD) {
            check.due("drop " + wild, x.drop(wild), false);
        }
        x.must(0, 2, 1);
        check.due("drop", x.drop(2), true);
        check.due("gone", x.drop(2), false);
        check.due("gone", x.of(2, 0), -1000);
        check.due("gone", x.beat(2, 0), -1);
        check.due("its must no longer counts", x.night(1), 16);
        check.due("refused", x.best(0, 2, 1, 0), -1);
        x.song(2, 0, 8, 108, 0);
        check.due("nor when it comes again", x.night(1), 32);
    }

    private static void of() {
        MixDesk x = check.desk("7 of");
        x.song(5, 1, 10, 120, 17);
        x.about(5, 13, 4, 3);
        x.bar(5, 2, 1);
        x.bar(5, 9, 3);
        x.loop(5, 2, 4, 3);
        int[] due = {1, 10, 120, 17, 13, 4, 3, 16, 36, 2};
        for (int what = 0; what < due.length; what++) {
            check.due("of 5 " + what, x.of(5, what), due[what]);
        }
        check.due("of 5 -1", x.of(5, -1), -1000);
        check.due("of 5 10", x.of(5, 10), -1000);
        for (int wild : WILD) {
            check.due("of " + wild, x.of(wild, 0), -1000);
            check.due("what " + wild, x.of(5, wild), -1000);
        }
        x.song(8, 0, 64, 100, 0);
        check.due("no broken bars of 64", x.of(8, 9), 0);
        check.due("beats of 64", x.of(8, 8), 256);
        x.bar(8, 63, 2);
        check.due("one of 64", x.of(8, 9), 1);
        x.song(6, 2, 4, 100, -7);
        check.due("kind 2", x.of(6, 0), 2);
        check.due("slope", x.of(6, 3), -7);
        x.song(7, 0, 4, 100, -7);
        check.due("even has no more", x.of(7, 3), 0);
    }

    private static void beat() {
        MixDesk x = check.desk("8 beat");
        x.song(0, 0, 4, 100, 0);
        check.due("even", x.beat(0, 3), 300);
        check.due("end", x.beat(0, 16), 1600);
        check.due("behind the end", x.beat(0, 17), -1);
        check.due("ahead", x.beat(0, -1), -1);
        x.bar(0, 1, 1);
        x.loop(0, 0, 1, 4);
        check.due("end without the loop", x.beat(0, 13), 1300);
        check.due("behind the end", x.beat(0, 14), -1);
        // the swing follows the BEATS' numbers over a broken bar
        x.song(1, 1, 2, 100, 90);
        x.bar(1, 0, 3);
        int[] swung = {0, 190, 200, 390, 400, 590, 600, 790};
        for (int k = 0; k < swung.length; k++) {
            check.due("swung " + k, x.beat(1, k), swung[k]);
        }
        check.due("swung behind", x.beat(1, 8), -1);
        // 100 less ceil(k 7 / 16): 100, 99, 99, 98, 98, 97
        x.song(2, 2, 2, 100, -7);
        int[] changing = {0, 100, 199, 298, 396, 494, 591};
        for (int k = 0; k < changing.length; k++) {
            check.due("changing " + k, x.beat(2, k), changing[k]);
        }
        // 22, 20 (22 - 2), then 19 and less are 20
        x.song(3, 2, 2, 22, -20);
        check.due("not below 20", x.beat(3, 8), 22 + 7 * 20);
        // 398, 399, 400, then 401 and more are 400
        x.song(4, 2, 2, 398, 20);
        check.due("not above 400", x.beat(4, 8), 398 + 399 + 6 * 400);
        x.song(5, 2, 64, 400, 20);
        check.due("the longest", x.beat(5, 256), 102400);
        check.due("behind it", x.beat(5, 257), -1);
        for (int wild : WILD) {
            check.due("song " + wild, x.beat(wild, 0), -1);
        }
        check.due("far ahead", x.beat(0, Integer.MIN_VALUE), -1);
        check.due("far behind", x.beat(0, Integer.MAX_VALUE), -1);
    }

    private static void played() {
        MixDesk x = check.desk("9 played");
        x.song(0, 2, 5, 100, 16);
        x.bar(0, 1, 2);
        x.loop(0, 1, 2, 2);
        // BEATS last 100, 101 and on; BARS of 4, 2, 4, 4, 4 begin at 0, 406, 615, 1045, 1491
        int[] bars = {0, 1, 2, 1, 2, 3, 4};
        int[] ticks = {0, 406, 615, 1045, 1254, 1684, 2130};
        int[] beats = {4, 2, 4, 2, 4, 4, 4};
        for (int p = 0; p < bars.length; p++) {
            check.due("bar at " + p, x.played(0, p, 0), bars[p]);
            check.due("tick at " + p, x.played(0, p, 1), ticks[p]);
            check.due("beats at " + p, x.played(0, p, 2), beats[p]);
        }
        check.due("behind", x.played(0, 7, 0), -1);
        check.due("ahead", x.played(0, -1, 0), -1);
        check.due("what 3", x.played(0, 0, 3), -1);
        check.due("what -1", x.played(0, 0, -1), -1);
        check.due("none such", x.played(1, 0, 0), -1);
        x.bar(0, 1, 4);
        check.due("the loop stays when a bar changes", x.played(0, 3, 1), 406 + 422 + 438);
        for (int wild : WILD) {
            check.due("song " + wild, x.played(wild, 0, 0), -1);
            check.due("place " + wild, x.played(0, wild, 0), -1);
        }
    }

    private static void length() {
        MixDesk x = check.desk("10 length");
        x.song(0, 1, 3, 100, 50);
        check.due("without", x.length(0), 1200);
        // the middle BAR has BEATS 4, 5, 6 of 150, 50, 150
        x.bar(0, 1, 3);
        check.due("broken", x.length(0), 400 + 350 + 400);
        x.loop(0, 1, 1, 4);
        check.due("looped", x.length(0), 400 + 4 * 350 + 400);
        check.due("none such", x.length(1), -1);
        for (int wild : WILD) {
            check.due("song " + wild, x.length(wild), -1);
        }
    }

    private static void stroke() {
        MixDesk x = check.desk("11 stroke");
        check.due("below 0", x.stroke(-1), -1);
        check.due("too late", x.stroke(1000001), -1);
        check.due("first", x.stroke(0), 1);
        check.due("the same", x.stroke(0), -1);
        for (int i = 1; i < 59; i++) {
            check.due("stroke", x.stroke(10 * i), i + 1);
        }
        check.due("below the last", x.stroke(579), -1);
        check.due("the last tick", x.stroke(1000000), 60);
        check.due("behind it", x.stroke(1000001), -1);
        x.clear();
        for (int i = 0; i < 60; i++) {
            x.stroke(i);
        }
        check.due("61", x.stroke(1000), -1);
        check.due("still 60", x.clear(), 60);
    }

    private static void clear() {
        MixDesk x = check.desk("12 clear");
        check.due("none", x.clear(), 0);
        x.stroke(7);
        x.stroke(9);
        check.due("two", x.clear(), 2);
        check.due("none", x.clear(), 0);
        check.due("a row anew", x.stroke(3), 1);
    }

    private static void find() {
        MixDesk x = check.desk("13 find");
        check.due("no strokes", x.find(100, 0, 0), -1);
        x.stroke(0);
        check.due("one", x.find(10, 10000, 10000), 0);
        check.due("one", x.find(1000, 0, 0), 0);
        int[][] refused = {{9, 0, 0}, {1001, 0, 0}, {100, -1, 0}, {100, 10001, 0}, {100, 0, -1}, {100, 0, 10001}};
        for (int[] call : refused) {
            check.due("refused", x.find(call[0], call[1], call[2]), -1);
        }
        x.stroke(150);
        // 150 is one GAP of 100, as the lesser one, and 50 more
        check.due("the lesser of two", x.find(100, 40, 1000), 50);
        x.stroke(301);
        // 151 is two GAPS less 49, and one is missed
        check.due("the nearest", x.find(100, 40, 1000), 50 + 49 + 40);
        check.due("one at least", x.find(100, 3, 0), 0);
        x.stroke(305);
        // 4 is no nearer to 1 GAP than to 0, but 1 it is
        check.due("one at least", x.find(10, 0, 10000), 0 + 1 + 6);
        // 301 is 3 GAPS and 1 more, and two are missed: 1 + 2 3; two STROKES are not taken
        check.due("two are skipped", x.find(100, 3, 8), 7 + 16);
        x.clear();
        for (int tick : new int[] {0, 40, 140, 239, 342}) {
            x.stroke(tick);
        }
        check.due("the first one is skipped", x.find(100, 50, 5), 5 + 0 + 1 + 3);
        check.due("its number", x.found(0), 1);
        check.due("the last three are skipped", x.find(50, 50, 20), 10 + 60);
        dueBeats(x, 0, 1);
        x.clear();
        x.stroke(0);
        x.stroke(15);
        check.due("a half to the lesser", x.find(10, 9, 100), 5);
        check.due("more than a half", x.find(11, 9, 100), 4);
        check.due("of 29 to 20", x.find(20, 9, 100), 5);
        x.clear();
        x.stroke(0);
        x.stroke(17);
        check.due("more than a half to the greater", x.find(11, 1, 100), 6);
        x.clear();
        x.stroke(0);
        x.stroke(1000000);
        check.due("far", x.find(10, 0, 10000), 0);
        check.due("far, dear", x.find(10, 10000, 10000), 10000);
    }

    private static void findTies() {
        MixDesk x = check.desk("13 of equal ways the first one");
        for (int tick : new int[] {0, 90, 110, 200}) {
            x.stroke(tick);
        }
        // 0 90 200 and 0 110 200 both cost 10 + 10 + SKIP, and 0 200 costs MISS and two SKIPS
        check.due("cost", x.find(100, 20, 15), 35);
        dueBeats(x, 0, 1, 3);
        check.due("cost", x.find(100, 5, 15), 35);
        dueBeats(x, 0, 1, 3);
        check.due("cost", x.find(100, 4, 15), 34);
        dueBeats(x, 0, 3);
        x.clear();
        x.stroke(0);
        x.stroke(10);
        x.stroke(100);
        // 0 100 costs one SKIP, as do 10 100 with 10 more and 0 alone with one SKIP more
        check.due("cost", x.find(100, 0, 20), 20);
        dueBeats(x, 0, 2);
        x.clear();
        x.stroke(0);
        x.stroke(130);
        // both cost 30
        check.due("cost", x.find(100, 0, 30), 30);
        dueBeats(x, 0, 1);
        check.due("cost", x.find(100, 0, 29), 29);
        dueBeats(x, 0);
    }

    private static void dueBeats(MixDesk x, int... strokes) {
        for (int k = 0; k < strokes.length; k++) {
            check.due("found " + k, x.found(k), strokes[k]);
        }
        check.due("found behind", x.found(strokes.length), -1);
    }

    private static void found() {
        MixDesk x = check.desk("14 found");
        x.stroke(1);
        x.stroke(50);
        x.stroke(101);
        check.due("cost", x.find(100, 0, 10), 10);
        dueBeats(x, 0, 2);
        check.due("refused", x.find(9, 0, 10), -1);
        x.stroke(201);
        dueBeats(x, 0, 2);
        x.clear();
        check.due("no strokes", x.find(100, 0, 10), -1);
        dueBeats(x, 0, 2);
        for (int wild : WILD) {
            check.due("found " + wild, x.found(wild), -1);
        }
        x.stroke(7);
        check.due("cost", x.find(100, 0, 10), 0);
        dueBeats(x, 0);
    }

    private static void costs() {
        MixDesk x = check.deskOf("15 costs", 100, 100);
        x.about(0, 0, 0, 4);
        x.about(1, 2, 3, 4);
        check.due("at first", x.join(0, 1, 1, 0, 0, false), 2 * 10 + 3 * 5);
        int[][] refused = {{-1, 0, 0}, {1001, 0, 0}, {0, -1, 0}, {0, 1001, 0}, {0, 0, -1}, {0, 0, 1001}};
        for (int[] call : refused) {
            check.due("refused", x.costs(call[0], call[1], call[2]), false);
        }
        check.due("still", x.join(0, 1, 1, 0, 0, false), 35);
        // at first BOUND is 80: 27 1000 / 337 is 80, 30 1000 / 370 is 81
        x.song(2, 0, 2, 364, 0);
        x.song(3, 0, 2, 337, 0);
        x.song(4, 0, 2, 400, 0);
        x.song(5, 0, 2, 370, 0);
        check.due("80 holds", x.join(2, 3, 1, 0, 0, false), 4 * 27);
        check.due("81 does not", x.join(4, 5, 1, 0, 0, false), -4);
        check.due("best", x.best(0, 1, 1, 0), 35);
        check.due("most", x.costs(1000, 1000, 1000), true);
        check.due("most", x.join(0, 1, 1, 0, 0, false), 5000);
        check.due("best", x.best(0, 1, 1, 0), 5000);
        check.due("mend", x.mend(401, 100), 2);
        check.due("none", x.costs(0, 0, 0), true);
        check.due("none", x.join(0, 1, 1, 0, 0, false), 0);
        x.song(1, 0, 8, 101, 0);
        check.due("bent", x.join(0, 1, 1, 0, 0, false), -4);
        check.due("costs", x.costs(9, 0, 0), true);
        // BEATS 0 and 3 keep to one song, and the other is bent by 1000 / 101 and 1000 / 100
        check.due("bent", x.join(0, 1, 1, 0, 0, false), -4);
        check.due("costs", x.costs(10, 0, 0), true);
        check.due("bent", x.join(0, 1, 1, 0, 0, false), 4);
    }

    private static void joinCost() {
        MixDesk x = check.deskOf("16 join: what keys and heats cost", 100, 100);
        int[][] keys = {{0, 0, 0}, {0, 12, 1}, {0, 6, 6}, {0, 7, 5}, {0, 11, 1}, {0, 23, 2}, {12, 23, 1}, {23, 1, 3}, {18, 0, 7}};
        for (int[] pair : keys) {
            x.about(0, pair[0], 2, 4);
            x.about(1, pair[1], 9, 4);
            check.due("keys " + pair[0] + " " + pair[1], x.join(0, 1, 1, 0, 0, false), pair[2] * 10 + 35);
            check.due("keys " + pair[1] + " " + pair[0], x.join(1, 0, 1, 0, 0, false), pair[2] * 10 + 35);
        }
    }

    private static void joinRefused() {
        MixDesk x = check.deskOf("16 join refused", 100, 104, 150);
        for (int wild : WILD) {
            check.due("a " + wild, x.join(wild, 1, 1, 0, 0, false), -1);
            check.due("b " + wild, x.join(0, wild, 1, 0, 0, false), -1);
            check.due("n " + wild, x.join(0, 1, wild, 0, 0, false), -1);
            check.due("p " + wild, x.join(0, 1, 1, wild, 0, false), -1);
            check.due("q " + wild, x.join(0, 1, 1, 0, wild, false), -1);
        }
        check.due("none such", x.join(0, 3, 1, 0, 0, false), -1);
        check.due("the same", x.join(1, 1, 1, 0, 0, false), -1);
        check.due("n 0", x.join(0, 1, 0, 0, 0, false), -1);
        check.due("n 9", x.join(0, 1, 9, 0, 0, false), -1);
        check.due("n 8", x.join(0, 1, 8, 0, 0, true), 4 * 32);
        check.due("p 8", x.join(0, 1, 1, 8, 0, false), -1);
        check.due("q 8", x.join(0, 1, 1, 0, 8, false), -1);
        check.due("q 7", x.join(0, 1, 1, 0, 7, false), 16);
        check.due("p 7", x.join(0, 1, 1, 7, 0, false), 16);
        check.due("too few in a", x.join(0, 1, 2, 7, 0, false), -2);
        check.due("too few in b", x.join(0, 1, 2, 0, 7, false), -2);
        x.bar(1, 3, 2);
        check.due("broken first", x.join(0, 1, 1, 0, 3, false), -2);
        check.due("broken later", x.join(0, 1, 2, 0, 2, false), -2);
        check.due("beside it", x.join(0, 1, 2, 0, 1, false), 32);
        check.due("broken ahead of phrases", x.join(0, 1, 1, 1, 3, true), -2);
        check.due("phrase in b", x.join(0, 1, 1, 4, 1, true), -3);
        check.due("phrase in a", x.join(0, 1, 1, 3, 4, true), -3);
        check.due("phrases in both", x.join(0, 1, 1, 4, 4, true), 16);
        check.due("phrases ahead of bound", x.join(0, 2, 1, 1, 0, true), -3);
        check.due("bound", x.join(0, 2, 1, 1, 0, false), -4);
        // PLAYED BARS 8 and on are BARS 4 and on
        x.loop(0, 0, 3, 2);
        x.about(0, 0, 0, 8);
        check.due("phrase at the bar that is played", x.join(0, 1, 1, 4, 0, true), 16);
        check.due("no phrase there", x.join(0, 1, 1, 8, 0, true), -3);
        check.due("p 11", x.join(0, 1, 1, 11, 0, false), 16);
        check.due("p 12", x.join(0, 1, 1, 12, 0, false), -1);
    }

    private static void joinBlend() {
        MixDesk x = check.desk("16 join: beats bent");
        x.song(0, 2, 4, 100, 16);
        x.song(1, 0, 4, 108, 0);
        x.loop(0, 0, 0, 2);
        // a's BAR 0 is played twice: 100 101 102 103 twice; over 8 BEATS into 108
        int[] lasts = {100, 102, 104, 105, 104, 105, 107, 107};
        check.due("cost", x.join(0, 1, 2, 0, 0, true), 2 * (8 + 7 + 6 + 5));
        int begins = 0;
        for (int j = 0; j < 8; j++) {
            check.due("begins " + j, x.meets(j, 0), begins);
            check.due("lasts " + j, x.meets(j, 1), lasts[j]);
            begins += lasts[j];
        }
        check.due("ends", x.meets(8, 0), begins);
        // down: 108 less floor halves; the floor of a number below 0 is the lesser one
        check.due("cost", x.join(1, 0, 1, 0, 0, false), 26);
        // 108, 108 + floor((-7 + 2) / 4), 108 + floor((-12 + 2) / 4), 108 + floor((-15 + 2) / 4)
        int[] down = {108, 106, 105, 104};
        for (int j = 0; j < 4; j++) {
            check.due("down " + j, x.meets(j, 1), down[j]);
        }
        // BEND: |106 - 101| 1000 / 101 is 49, |106 - 108| 1000 / 108 is 18
        check.due("bend", x.meets(1, 2), 49);
        check.due("bend", x.meets(0, 2), 80);
        check.due("bend", x.meets(3, 2), 37);
    }

    private static void meets() {
        MixDesk x = check.deskOf("17 meets", 100, 104);
        check.due("none yet", x.meets(0, 0), -1);
        check.due("best is no join told", x.best(0, 1, 1, 0), 16);
        check.due("none yet", x.meets(0, 0), -1);
        check.due("join", x.join(0, 1, 2, 0, 0, false), 32);
        for (int wild : WILD) {
            check.due("j " + wild, x.meets(wild == 12 || wild == 13 ? 9 : wild, 0), -1);
            check.due("what " + wild, x.meets(0, wild), -1);
        }
        check.due("what 3", x.meets(0, 3), -1);
        check.due("lasts", x.meets(7, 1), 104);
        check.due("bend", x.meets(7, 2), 40);
        check.due("end", x.meets(8, 0), 816);
        check.due("end lasts", x.meets(8, 1), -1);
        check.due("end bend", x.meets(8, 2), -1);
        check.due("behind", x.meets(9, 0), -1);
        check.due("refused", x.join(0, 1, 9, 0, 0, false), -1);
        x.costs(0, 0, 0);
        check.due("does not hold", x.join(0, 1, 1, 0, 0, false), -4);
        check.due("as told", x.meets(8, 0), 816);
        x.drop(0);
        x.song(1, 0, 8, 200, 0);
        check.due("as told", x.meets(8, 0), 816);
        check.due("as told", x.meets(0, 2), 38);
        x.song(0, 0, 8, 200, 0);
        check.due("join", x.join(0, 1, 1, 0, 0, false), 0);
        check.due("the latest", x.meets(4, 0), 800);
        check.due("the latest", x.meets(5, 0), -1);
    }

    private static void best() {
        MixDesk x = check.deskOf("18 best", 100, 104, 150);
        for (int wild : WILD) {
            check.due("a " + wild, x.best(wild, 1, 1, 0), -1);
            check.due("b " + wild, x.best(0, wild, 1, 0), -1);
            check.due("n " + wild, x.best(0, 1, wild, 0), -1);
            check.due("what " + wild, x.best(0, 1, 1, wild), -1);
        }
        check.due("the same", x.best(1, 1, 1, 0), -1);
        check.due("none such", x.best(0, 3, 1, 0), -1);
        check.due("n 0", x.best(0, 1, 0, 0), -1);
        check.due("n 9", x.best(0, 1, 9, 0), -1);
        check.due("what 3", x.best(0, 1, 1, 3), -1);
        check.due("does not hold", x.best(0, 2, 1, 0), -1);
        check.due("does not hold", x.best(0, 2, 1, 1), -1);
        check.due("too short", x.song(3, 0, 7, 100, 0), true);
        check.due("too short", x.best(0, 3, 8, 0), -1);
        check.due("greatest p", x.best(0, 1, 4, 1), 4);
        check.due("least q", x.best(0, 1, 4, 2), 0);
        // a slows from 100 to 103 by BAR; b is a's twin, faster at its beginning
        x.song(4, 2, 16, 100, 4);
        x.song(5, 2, 16, 104, 4);
        x.about(4, 0, 0, 1);
        x.about(5, 0, 0, 1);
        // a's BAR p + 4 sounds like b's BAR p: the cost is 0 from p 4 and q 0 to p 15 and q 11
        check.due("cost", x.best(4, 5, 1, 0), 0);
        check.due("greatest p", x.best(4, 5, 1, 1), 15);
        check.due("q", x.best(4, 5, 1, 2), 11);
        check.due("cost", x.best(4, 5, 4, 0), 0);
        check.due("greatest p", x.best(4, 5, 4, 1), 12);
        check.due("q", x.best(4, 5, 4, 2), 8);
        x.about(4, 0, 0, 5);
        check.due("phrases", x.best(4, 5, 4, 1), 10);
        check.due("phrases", x.best(4, 5, 4, 2), 6);
        x.bar(5, 6, 3);
        check.due("not over a broken bar", x.best(4, 5, 4, 1) == 10 && x.best(4, 5, 4, 2) == 6, false);
        // windows of 2 BARS that differ in their last BEATS alone
        x.song(6, 2, 8, 100, 1);
        x.song(7, 0, 8, 101, 0);
        x.about(6, 0, 0, 1);
        // floor(k / 16): BARS 0 to 3 last 100 a BEAT, 4 to 7 101
        check.due("all alike", x.best(6, 7, 2, 0), 0);
        check.due("greatest p", x.best(6, 7, 2, 1), 6);
        check.due("least q", x.best(7, 6, 2, 2), 4);
        check.due("greatest p", x.best(7, 6, 2, 1), 4);
        x.song(7, 0, 8, 100, 0);
        check.due("greatest p", x.best(6, 7, 2, 1), 2);
        check.due("least q", x.best(7, 6, 2, 2), 0);
        x.song(7, 0, 8, 99, 0);
        x.bar(6, 1, 2);
        x.bar(6, 2, 3);
        // BEAT 16 is the last one of BAR 4 now, and 2 BARS can begin behind BAR 2 alone
        check.due("cost", x.best(6, 7, 2, 0), 7 + 2);
        check.due("p", x.best(6, 7, 2, 1), 3);
    }

    private static void bestFollowsChanges() {
        MixDesk x = check.deskOf("18 best follows what is told", 100, 104);
        check.due("first", x.best(0, 1, 1, 0), 16);
        x.about(1, 3, 0, 4);
        check.due("key", x.best(0, 1, 1, 0), 46);
        x.about(1, 0, 0, 4);
        check.due("key", x.best(0, 1, 1, 1), 4);
        check.due("8 bars", x.best(0, 1, 8, 1), 0);
        x.loop(0, 0, 3, 2);
        check.due("8 bars", x.best(0, 1, 8, 1), 4);
        check.due("loop of a", x.best(0, 1, 1, 1), 8);
        x.bar(0, 4, 3);
        check.due("bar of a", x.best(0, 1, 1, 1), 4);
        x.bar(1, 0, 3);
        check.due("bar of b", x.best(0, 1, 1, 2), 4);
        x.song(1, 0, 8, 100, 0);
        check.due("song b", x.best(0, 1, 1, 0), 0);
        check.due("song b", x.best(0, 1, 1, 2), 0);
        x.costs(0, 0, 1000);
        x.about(0, 0, 9, 4);
        check.due("costs", x.best(0, 1, 1, 0), 9000);
        check.due("the other way", x.best(1, 0, 1, 0), 9000);
        x.drop(1);
        check.due("drop", x.best(0, 1, 1, 0), -1);
    }

    private static void must() {
        MixDesk x = check.deskOf("19 must", 100, 104, 108);
        for (int wild : WILD) {
            check.due("a " + wild, x.must(wild, 1, 1), false);
            check.due("b " + wild, x.must(0, wild, 1), false);
            check.due("how " + wild, x.must(0, 1, wild), false);
        }
        check.due("none such", x.must(0, 3, 1), false);
        check.due("the same", x.must(1, 1, 1), false);
        check.due("how 3", x.must(0, 1, 3), false);
        check.due("must", x.must(2, 0, 1), true);
        check.due("night", x.night(1), 32 + 16);
        check.due("order", x.order(0) * 100 + x.order(1) * 10 + x.order(2), 120);
        check.due("must another one behind 2", x.must(2, 1, 1), true);
        check.due("both can't be", x.night(1), -2);
        check.due("neither", x.must(2, 0, 0), true);
        check.due("night", x.night(1), 32);
        check.due("order", x.order(0) * 100 + x.order(1) * 10 + x.order(2), 210);
        check.due("another one ahead of 1", x.must(0, 1, 1), true);
        check.due("both can't be", x.night(1), -2);
        x.must(2, 1, 0);
        check.due("must in a ring", x.must(1, 0, 1), true);
        check.due("a ring can't be", x.night(1), -2);
        x.must(1, 0, 2);
        check.due("must and must not", x.night(1), 32);
        x.must(1, 2, 2);
        check.due("2 0 1", x.night(1), 48);
        check.due("order", x.order(0) * 100 + x.order(1) * 10 + x.order(2), 201);
        x.must(2, 0, 2);
        check.due("no way is left", x.night(1), -2);
    }

    private static void night() {
        MixDesk x = check.desk("20 night");
        check.due("no songs", x.night(1), -1);
        x.song(9, 0, 2, 100, 0);
        check.due("n 0", x.night(0), -1);
        check.due("n 9", x.night(9), -1);
        for (int wild : WILD) {
            check.due("n " + wild, x.night(wild), -1);
        }
        check.due("one song", x.night(8), 0);
        check.due("one song", x.order(0), 9);
        x.song(4, 0, 8, 100, 0);
        check.due("too short for 8", x.night(8), -2);
        check.due("two songs", x.night(2), 0);
        check.due("order", x.order(0) * 10 + x.order(1), 49);
        x.song(0, 0, 8, 150, 0);
        check.due("no join", x.night(1), -2);
        x.costs(1000, 0, 0);
        check.due("wide bound", x.night(1), 200);
        x.song(0, 0, 8, 104, 0);
        x.about(4, 0, 1, 4);
        x.about(9, 0, 2, 4);
        x.about(0, 0, 0, 4);
        x.costs(80, 0, 100);
        // 0 4 9: 16 + 100 + 100; 4 9 0: 100 + 16 + 200
        check.due("heats", x.night(1), 216);
        check.due("order", x.order(0) * 100 + x.order(1) * 10 + x.order(2), 49);
    }

    private static void nightTies() {
        MixDesk x = check.desk("20 of equal nights the first one");
        for (int s = 0; s < 12; s++) {
            x.song(s, 0, 4, 100, 0);
        }
        check.due("all alike", x.night(1), 0);
        for (int i = 0; i < 12; i++) {
            check.due("order " + i, x.order(i), i);
        }
        x.must(11, 0, 1);
        x.must(3, 2, 1);
        check.due("all alike", x.night(4), 0);
        int[] due = {1, 3, 2, 4, 5, 6, 7, 8, 9, 10, 11, 0};
        for (int i = 0; i < 12; i++) {
            check.due("order " + i, x.order(i), due[i]);
        }
        check.due("order 12", x.order(12), -1);
        // PHRASE beginnings must fit: a song of 4 BARS, its first one BROKEN, has none left
        x.bar(5, 0, 3);
        check.due("phrases are asked", x.night(1), -2);
    }

    private static void order() {
        MixDesk x = check.deskOf("21 order", 100, 104);
        check.due("none yet", x.order(0), -1);
        check.due("best is no night", x.best(0, 1, 1, 0), 16);
        check.due("none yet", x.order(0), -1);
        check.due("night", x.night(1), 16);
        for (int wild : WILD) {
            check.due("order " + wild, x.order(wild), -1);
        }
        check.due("order 2", x.order(2), -1);
        x.must(0, 1, 2);
        x.must(1, 0, 2);
        check.due("none", x.night(1), -2);
        check.due("as told", x.order(1), 1);
        check.due("refused", x.night(9), -1);
        check.due("as told", x.order(0), 0);
        x.drop(0);
        x.drop(1);
        check.due("no songs", x.night(1), -1);
        check.due("as told", x.order(1), 1);
        x.song(7, 0, 4, 100, 0);
        check.due("night", x.night(1), 0);
        check.due("the latest", x.order(0), 7);
        check.due("the latest", x.order(1), -1);
    }

    private static void mend() {
        MixDesk x = check.desk("22 mend");
        check.due("0", x.mend(0, 20), 0);
        check.due("step 19", x.mend(0, 19), -1);
        check.due("step 401", x.mend(0, 401), -1);
        check.due("too far", x.mend(100001, 100), -1);
        check.due("too far", x.mend(-100001, 100), -1);
        for (int wild : new int[] {Integer.MIN_VALUE, Integer.MAX_VALUE}) {
            check.due("slip " + wild, x.mend(wild, 100), -1);
            check.due("step " + wild, x.mend(1, wild), -1);
        }
        // floor(20 80 / 1000) is 1: 4 in a BAR
        check.due("least step", x.mend(4, 20), 1);
        check.due("least step", x.mend(5, 20), 2);
        check.due("farthest", x.mend(-100000, 20), 25000);
        // floor(400 80 / 1000) is 32: 128 in a BAR
        check.due("most step", x.mend(128, 400), 1);
        check.due("most step", x.mend(-129, 400), 2);
        x.costs(49, 0, 0);
        check.due("nothing can be bent", x.mend(1, 20), -1);
        x.costs(333, 0, 0);
        // floor(300 333 / 1000) is 99
        check.due("thousandths", x.mend(397, 300), 2);
        check.due("thousandths", x.mend(396, 300), 1);
        x.costs(49, 0, 0);
        check.due("no slip", x.mend(0, 20), 0);
        check.due("something can", x.mend(1, 21), 1);
        x.costs(1000, 0, 0);
        check.due("by all", x.mend(100000, 400), 63);
    }
}
