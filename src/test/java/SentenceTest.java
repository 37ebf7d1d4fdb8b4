/**
 * The sentences of the document that name no boundary: each is taken as it stands and counted out,
 * by walking, adding or trying all, over ordinary inputs. The titles are the document's words.
 */
public final class SentenceTest {
    private static final Check check = new Check();
    /** The BROKEN BAR of each SONG of deskOfAll, far behind its end if there is none, and how many BEATS it is short of. */
    private static final int[] BROKEN = {99, 3, 0, 6, 99};
    private static final int[] BEATS_LESS = {0, 1, 3, 2, 0};

    public static void main(String[] args) {
        barsOfFourBeats();
        phrasesBegin();
        eachIsABarOfTheSong();
        waysCost();
        firstOfTheLeastWays();
        beatsOfJoins();
        costOfJoins();
        keysApart();
        theJoin();
        theNight();
        mendPutsRight();
        check.end();
    }

    /** SONGS of each KIND, with BROKEN BARS, LOOPS, KEYS, HEATS and PHRASES, that can be led into one another. */
    private static MixDesk deskOfAll(String title) {
        MixDesk x = check.desk(title);
        x.song(0, 0, 9, 100, 0);
        x.song(1, 1, 8, 101, 2);
        x.song(2, 2, 10, 97, 2);
        x.song(3, 2, 7, 105, -3);
        x.song(4, 1, 6, 99, 1);
        x.about(0, 3, 2, 2);
        x.about(1, 14, 5, 1);
        x.about(2, 20, 0, 3);
        x.about(3, 11, 7, 1);
        x.about(4, 0, 4, 2);
        for (int s = 1; s <= 3; s++) {
            x.bar(s, BROKEN[s], 4 - BEATS_LESS[s]);
        }
        x.loop(0, 2, 4, 2);
        x.loop(2, 5, 6, 2);
        x.loop(4, 0, 0, 3);
        return x;
    }

    // ---- terms I

    private static void barsOfFourBeats() {
        MixDesk x = check.desk("I: BARS of 4 BEATS; a BROKEN BAR has 1 to 3");
        x.song(7, 0, 11, 50, 0);
        int[] told = {4, 2, 4, 4, 1, 3, 4, 4, 3, 1, 4};
        for (int bar = 0; bar < 11; bar++) {
            check.due("at first, bar " + bar, x.played(7, bar, 2), 4);
            check.due("told, bar " + bar, x.bar(7, bar, told[bar]), true);
        }
        int begins = 0;
        for (int bar = 0; bar < 11; bar++) {
            check.due("beats of bar " + bar, x.played(7, bar, 2), told[bar]);
            check.due("the tick at which bar " + bar + " begins", x.played(7, bar, 1), begins);
            begins += 50 * told[bar];
        }
        check.due("BEATS", x.of(7, 8), 34);
        check.due("BROKEN BARS", x.of(7, 9), 5);
        check.due("length", x.length(7), begins);
    }

    private static void phrasesBegin() {
        for (int phrase = 1; phrase <= 16; phrase++) {
            MixDesk x = check.desk("I: each PHRASE (1 .. 16) BARS, from BAR 0 on, one begins: " + phrase);
            x.song(0, 0, 64, 100, 0);
            x.song(1, 0, 64, 100, 0);
            x.about(0, 0, 0, phrase);
            int next = 0;
            for (int bar = 0; bar < 64; bar++) {
                check.due("at " + bar + " of a", x.join(0, 1, 1, bar, 0, true), bar == next ? 0 : -3);
                check.due("at " + bar + " of b", x.join(1, 0, 1, 0, bar, true), bar == next ? 0 : -3);
                next += bar == next ? phrase : 0;
            }
        }
    }

    private static void eachIsABarOfTheSong() {
        MixDesk x = deskOfAll("I: each is a BAR of the SONG; its BEATS last as long as that BAR's");
        for (int s = 0; s < 5; s++) {
            int ends = 0;
            for (int p = 0; p < x.of(s, 7); p++) {
                check.due("song " + s + ", played bar " + p, x.played(s, p, 1), ends);
                int first = firstBeat(s, x.played(s, p, 0));
                ends += x.beat(s, first + x.played(s, p, 2)) - x.beat(s, first);
            }
            check.due("10: how long song " + s + " is", x.length(s), ends);
        }
    }

    /** The number of a BAR's first BEAT in deskOfAll's SONGS, of which some have one BROKEN BAR. */
    private static int firstBeat(int s, int bar) {
        return 4 * bar - (bar > BROKEN[s] ? BEATS_LESS[s] : 0);
    }

    // ---- terms II

    /** By trying every whole number from 1 on: of two that are as near the lesser one stays. */
    private static int apartCost(int d, int gap, int miss) {
        int nearest = 1;
        for (int m = 2; m * gap <= d + gap; m++) {
            nearest = Math.abs(d - m * gap) < Math.abs(d - nearest * gap) ? m : nearest;
        }
        return Math.abs(d - nearest * gap) + (nearest - 1) * miss;
    }

    private static void waysCost() {
        for (int gap : new int[] {10, 11, 37, 100}) {
            for (int d = 1; d <= 130; d++) {
                MixDesk x = check.desk("II: it costs |d - m GAP| and (m - 1) times MISS: d " + d + ", GAP " + gap);
                x.stroke(20);
                x.stroke(20 + d);
                check.due("MISS 0", x.find(gap, 0, 10000), apartCost(d, gap, 0));
                check.due("MISS 3", x.find(gap, 3, 10000), apartCost(d, gap, 3));
                check.due("MISS 700", x.find(gap, 700, 10000), apartCost(d, gap, 700));
            }
        }
    }

    private static void firstOfTheLeastWays() {
        int[][] rows = {{0, 100, 150, 200, 290, 310, 400, 505}, {3, 53, 99, 148, 203, 260, 300, 352},
            {10, 20, 30, 40, 50, 60, 70, 80}, {0, 1, 2, 300, 301, 302, 600, 601}, {5, 190, 210, 395, 405, 605, 795, 1000}};
        int[][] asked = {{100, 0, 0}, {100, 0, 10}, {100, 10, 10}, {100, 25, 40}, {50, 5, 9}, {50, 10000, 30}, {10, 0, 5},
            {20, 4, 5}, {200, 0, 10000}, {300, 1, 1}, {1000, 60, 200}};
        for (int i = 0; i < rows.length; i++) {
            MixDesk x = check.desk("II: of the WAYS with the least cost the first one: row " + i);
            for (int tick : rows[i]) {
                x.stroke(tick);
            }
            for (int[] call : asked) {
                int way = firstLeastWay(rows[i], call);
                String name = "gap " + call[0] + ", miss " + call[1] + ", skip " + call[2];
                check.due(name + ": cost", x.find(call[0], call[1], call[2]), wayCost(rows[i], way, call));
                int k = 0;
                for (int stroke = 0; stroke < 8; stroke++) {
                    if (takes(way, stroke)) {
                        check.due(name + ": found " + k, x.found(k), stroke);
                        k++;
                    }
                }
                check.due(name + ": found behind them", x.found(k), -1);
            }
        }
    }

    /** A WAY through 8 STROKES is a number of 8 places, STROKE 0 having the highest: of two ways the first one is the greater number. */
    private static boolean takes(int way, int stroke) {
        return (way >> 7 - stroke & 1) == 1;
    }

    private static int firstLeastWay(int[] row, int[] call) {
        int least = 255;
        for (int way = 254; way >= 1; way--) {
            least = wayCost(row, way, call) < wayCost(row, least, call) ? way : least;
        }
        return least;
    }

    private static int wayCost(int[] row, int way, int[] call) {
        int cost = 0;
        int last = -1;
        for (int stroke = 0; stroke < 8; stroke++) {
            if (!takes(way, stroke)) {
                cost += call[2];
                continue;
            }
            cost += last < 0 ? 0 : apartCost(row[stroke] - row[last], call[0], call[1]);
            last = stroke;
        }
        return cost;
    }

    // ---- terms III

    /** How long BEAT j from PLAYED BAR p on lasts; all BARS from there on are whole. */
    private static int lasts(MixDesk x, int s, int p, int j) {
        int k = firstBeat(s, x.played(s, p + j / 4, 0)) + j % 4;
        return x.beat(s, k + 1) - x.beat(s, k);
    }

    /** The greatest whole number that is no more than above / below; below is above 0. */
    private static int floor(int above, int below) {
        int whole = above / below;
        while (whole * below > above) {
            whole--;
        }
        return whole;
    }

    private static void beatsOfJoins() {
        // a, b, n, p, q: over the edges of LOOPS, behind BROKEN BARS, even, swung and changing
        int[][] joins = {{0, 1, 3, 0, 0}, {1, 0, 2, 4, 3}, {0, 2, 4, 4, 4}, {2, 0, 8, 1, 3}, {2, 3, 6, 5, 0}, {3, 2, 5, 1, 6},
            {4, 3, 5, 0, 1}, {1, 4, 3, 5, 1}, {4, 0, 7, 0, 2}};
        for (int[] join : joins) {
            MixDesk x = deskOfAll("III: from a's to b's: " + join[0] + " into " + join[1]);
            x.costs(1000, 0, 0);
            int n = join[2];
            int cost = x.join(join[0], join[1], n, join[3], join[4], false);
            int begins = 0;
            int sum = 0;
            for (int j = 0; j < 4 * n; j++) {
                int a = lasts(x, join[0], join[3], j);
                int b = lasts(x, join[1], join[4], j);
                int c = a + floor((b - a) * j + 2 * n, 4 * n);
                check.due("beat " + j + " begins", x.meets(j, 0), begins);
                check.due("beat " + j + " lasts", x.meets(j, 1), c);
                int bend = Math.max(floor(Math.abs(c - a) * 1000, a), floor(Math.abs(c - b) * 1000, b));
                check.due("beat " + j + " is bent", x.meets(j, 2), bend);
                begins += c;
                sum += Math.abs(c - a) + Math.abs(c - b);
            }
            check.due("the end", x.meets(4 * n, 0), begins);
            check.due("the first beat is a's", x.meets(0, 1), lasts(x, join[0], join[3], 0));
            check.due("16: its cost", cost, sum);
        }
    }

    private static void costOfJoins() {
        MixDesk x = deskOfAll("III: KEYCOST times how far the KEYS are apart, and HEATCOST times how far the HEATS are apart");
        x.costs(1000, 0, 0);
        int bent = x.join(0, 1, 2, 0, 0, false);
        // KEYS 3 and 14 (2 on the other ring), HEATS 2 and 5
        x.costs(1000, 17, 0);
        check.due("keys", x.join(0, 1, 2, 0, 0, false), bent + 2 * 17);
        x.costs(1000, 0, 19);
        check.due("heats", x.join(0, 1, 2, 0, 0, false), bent + 3 * 19);
        x.costs(1000, 17, 19);
        check.due("all of it", x.join(0, 1, 2, 0, 0, false), bent + 2 * 17 + 3 * 19);
    }

    /** By walking round the ring, up and down at once, until the other place is met. */
    private static int stepsApart(int key, int other) {
        int steps = 0;
        while ((key + steps) % 12 != other % 12 && (key + 12 - steps) % 12 != other % 12) {
            steps++;
        }
        return steps + (key < 12 == other < 12 ? 0 : 1);
    }

    private static void keysApart() {
        for (int key = 0; key < 24; key++) {
            MixDesk x = check.deskOf("III: KEY is a place on two rings of 12 (KEY modulo 12; ring KEY / 12): " + key, 100, 100);
            x.costs(80, 1, 0);
            x.about(0, key, 0, 4);
            for (int other = 0; other < 24; other++) {
                x.about(1, other, 0, 4);
                check.due("into " + other, x.join(0, 1, 1, 0, 0, false), stepsApart(key, other));
                check.due("of " + other, x.join(1, 0, 1, 0, 0, false), stepsApart(key, other));
            }
        }
    }

    private static void theJoin() {
        for (int bound : new int[] {25, 40, 80}) {
            for (int n = 1; n <= 4; n++) {
                for (int a = 0; a < 5; a++) {
                    for (int b = 0; b < 5; b++) {
                        if (a != b) {
                            dueJoin(bound, a, b, n);
                        }
                    }
                }
            }
        }
    }

    /** All p from the greatest one on and all q from the least one on: the first one of the least cost. */
    private static void dueJoin(int bound, int a, int b, int n) {
        MixDesk x = deskOfAll("III: THE JOIN of " + a + " into " + b + ", " + n + " BARS, BOUND " + bound);
        x.costs(bound, 3, 2);
        int least = -1;
        int leastP = -1;
        int leastQ = -1;
        for (int p = x.of(a, 7) - 1; p >= 0; p--) {
            for (int q = 0; q < x.of(b, 7); q++) {
                int cost = x.join(a, b, n, p, q, true);
                if (cost >= 0 && (least < 0 || cost < least)) {
                    least = cost;
                    leastP = p;
                    leastQ = q;
                }
            }
        }
        check.due("cost", x.best(a, b, n, 0), least);
        check.due("p", x.best(a, b, n, 1), leastP);
        check.due("q", x.best(a, b, n, 2), leastQ);
    }

    // ---- terms IV

    private static void theNight() {
        // a, b, how
        int[][][] musts = {{}, {{0, 1, 1}}, {{4, 3, 1}, {2, 0, 1}}, {{0, 4, 2}, {4, 0, 2}, {1, 3, 2}}, {{3, 2, 1}, {1, 0, 2}},
            {{0, 1, 1}, {1, 2, 1}, {3, 4, 1}}, {{0, 1, 1}, {0, 2, 1}}};
        for (int i = 0; i < musts.length; i++) {
            for (int bound : new int[] {25, 40, 80}) {
                for (int n = 1; n <= 4; n++) {
                    dueNight("IV: THE NIGHT: the least cost, musts " + i + ", BOUND " + bound + ", n " + n, musts[i], bound, n);
                }
            }
        }
    }

    private static void dueNight(String title, int[][] musts, int bound, int n) {
        MixDesk x = deskOfAll(title);
        x.costs(bound, 3, 2);
        int[][] how = new int[5][5];
        for (int[] must : musts) {
            check.due("must", x.must(must[0], must[1], must[2]), true);
            how[must[0]][must[1]] = must[2];
        }
        int[][] step = new int[5][5];
        for (int a = 0; a < 5; a++) {
            for (int b = 0; b < 5; b++) {
                step[a][b] = x.best(a, b, n, 0);
            }
        }
        int least = -2;
        int leastOrder = 0;
        // orders as numbers of five places, from the first one on
        for (int order = 1234; order <= 43210; order++) {
            int cost = orderCost(order, step, how);
            if (cost >= 0 && (least < 0 || cost < least)) {
                least = cost;
                leastOrder = order;
            }
        }
        check.due("cost", x.night(n), least);
        for (int i = 4; i >= 0; i--) {
            check.due("order " + i, x.order(i), least < 0 ? -1 : leastOrder % 10);
            leastOrder /= 10;
        }
    }

    /** What an order of SONGS 0 to 4 costs; -1 if it is none, or none that may be. */
    private static int orderCost(int order, int[][] step, int[][] how) {
        int[] songs = {order / 10000, order / 1000 % 10, order / 100 % 10, order / 10 % 10, order % 10};
        int seen = 0;
        for (int song : songs) {
            seen |= 1 << song;
        }
        if (seen != 31) {
            return -1;
        }
        int musts = 0;
        for (int[] row : how) {
            for (int told : row) {
                musts += told == 1 ? 1 : 0;
            }
        }
        int cost = 0;
        for (int i = 1; i < 5; i++) {
            int a = songs[i - 1];
            int b = songs[i];
            if (step[a][b] < 0 || how[a][b] == 2) {
                return -1;
            }
            musts -= how[a][b] == 1 ? 1 : 0;
            cost += step[a][b];
        }
        return musts == 0 ? cost : -1;
    }

    // ---- promise 22

    private static void mendPutsRight() {
        for (int bound : new int[] {3, 80, 333, 1000}) {
            MixDesk x = check.desk("22: how many BARS of 4 BEATS it takes to put it right: BOUND " + bound);
            x.costs(bound, 10, 5);
            for (int step : new int[] {20, 77, 120, 333, 400}) {
                for (int slip : new int[] {1, 7, 100, 479, 480, 481, 2500}) {
                    int due = barsToMend(slip, floor(step * bound, 1000));
                    check.due("slip " + slip + " at " + step, x.mend(slip, step), due);
                    check.due("slip -" + slip + " at " + step, x.mend(-slip, step), due);
                }
            }
        }
    }

    /** Bar by bar, until nothing of the slip is left. */
    private static int barsToMend(int slip, int bent) {
        int bars = 0;
        for (int left = slip; left > 0 && bent > 0; left -= 4 * bent) {
            bars++;
        }
        return bent > 0 ? bars : -1;
    }
}
