import java.math.BigInteger;
import java.util.ArrayList;
import java.util.Arrays;
import java.util.List;
import java.util.TreeMap;

/** The document's words taken one by one, slowly and with nothing kept: what MixDesk's answers are held against. */
final class Model {
    private static final class Tune {
        int kind;
        int step;
        int more;
        int key = 0;
        int heat = 0;
        int phrase = 4;
        int[] bars;
        int a = 0;
        int b = 0;
        int times = 1;

        int lasts(int k) {
            if (kind == 0) {
                return step;
            }
            if (kind == 1) {
                return k % 2 == 0 ? step + more : step - more;
            }
            int changed = step + floor(k * more, 16);
            return changed < 20 ? 20 : changed > 400 ? 400 : changed;
        }

        int firstBeat(int bar) {
            int sum = 0;
            for (int i = 0; i < bar; i++) {
                sum += bars[i];
            }
            return sum;
        }

        List<Integer> playedBars() {
            List<Integer> row = new ArrayList<>();
            for (int i = 0; i < a; i++) {
                row.add(i);
            }
            for (int time = 0; time < times; time++) {
                for (int i = a; i <= b; i++) {
                    row.add(i);
                }
            }
            for (int i = b + 1; i < bars.length; i++) {
                row.add(i);
            }
            return row;
        }

        int barLasts(int bar) {
            int sum = 0;
            for (int i = 0; i < bars[bar]; i++) {
                sum += lasts(firstBeat(bar) + i);
            }
            return sum;
        }
    }

    private final TreeMap<Integer, Tune> tunes = new TreeMap<>();
    private final TreeMap<Integer, Integer> musts = new TreeMap<>();
    private List<Integer> strokes = new ArrayList<>();
    private List<Integer> beats = new ArrayList<>();
    private int bound = 80;
    private int keyCost = 10;
    private int heatCost = 5;
    private int[][] meeting = null;
    private List<Integer> nightTold = new ArrayList<>();

    static int floor(long p, long q) {
        BigInteger[] parts = BigInteger.valueOf(p).divideAndRemainder(BigInteger.valueOf(q));
        return parts[0].intValue() - (parts[1].signum() < 0 ? 1 : 0);
    }

    private void forgetMusts(int s) {
        musts.keySet().removeIf(pair -> pair / 12 == s || pair % 12 == s);
    }

    boolean song(int s, int kind, int bars, int step, int more) {
        if (s < 0 || s > 11 || kind < 0 || kind > 2 || bars < 2 || bars > 64 || step < 20 || step > 400) {
            return false;
        }
        if (kind == 1 && (more < 0 || more > step - 10) || kind == 2 && (more < -20 || more > 20)) {
            return false;
        }
        Tune tune = new Tune();
        tune.kind = kind;
        tune.step = step;
        tune.more = kind == 0 ? 0 : more;
        tune.bars = new int[bars];
        Arrays.fill(tune.bars, 4);
        tunes.put(s, tune);
        forgetMusts(s);
        return true;
    }

    boolean about(int s, int key, int heat, int phrase) {
        Tune tune = tunes.get(s);
        if (tune == null || key < 0 || key > 23 || heat < 0 || heat > 9 || phrase < 1 || phrase > 16) {
            return false;
        }
        tune.key = key;
        tune.heat = heat;
        tune.phrase = phrase;
        return true;
    }

    boolean bar(int s, int bar, int count) {
        Tune tune = tunes.get(s);
        if (tune == null || bar < 0 || bar >= tune.bars.length || count < 1 || count > 4) {
            return false;
        }
        tune.bars[bar] = count;
        return true;
    }

    boolean loop(int s, int a, int b, int n) {
        Tune tune = tunes.get(s);
        if (tune == null || a < 0 || b >= tune.bars.length || a > b || n < 1 || n > 4) {
            return false;
        }
        if (tune.bars.length - (b - a + 1) + n * (b - a + 1) > 64) {
            return false;
        }
        tune.a = a;
        tune.b = b;
        tune.times = n;
        return true;
    }

    boolean drop(int s) {
        forgetMusts(s);
        return tunes.remove(s) != null;
    }

    int of(int s, int what) {
        Tune tune = tunes.get(s);
        if (tune == null || what < 0 || what > 9) {
            return -1000;
        }
        int broken = 0;
        for (int count : tune.bars) {
            broken += count == 4 ? 0 : 1;
        }
        return new int[] {tune.kind, tune.bars.length, tune.step, tune.more, tune.key, tune.heat, tune.phrase,
            tune.playedBars().size(), tune.firstBeat(tune.bars.length), broken}[what];
    }

    int beat(int s, int k) {
        Tune tune = tunes.get(s);
        if (tune == null || k < 0 || k > tune.firstBeat(tune.bars.length)) {
            return -1;
        }
        int tick = 0;
        for (int i = 0; i < k; i++) {
            tick += tune.lasts(i);
        }
        return tick;
    }

    int played(int s, int p, int what) {
        Tune tune = tunes.get(s);
        if (tune == null || p < 0 || p >= tune.playedBars().size() || what < 0 || what > 2) {
            return -1;
        }
        int bar = tune.playedBars().get(p);
        int tick = 0;
        for (int i = 0; i < p; i++) {
            tick += tune.barLasts(tune.playedBars().get(i));
        }
        return what == 0 ? bar : what == 1 ? tick : tune.bars[bar];
    }

    int length(int s) {
        Tune tune = tunes.get(s);
        if (tune == null) {
            return -1;
        }
        int sum = 0;
        for (int bar : tune.playedBars()) {
            sum += tune.barLasts(bar);
        }
        return sum;
    }

    int stroke(int tick) {
        int last = strokes.isEmpty() ? -1 : strokes.get(strokes.size() - 1);
        if (tick <= last || tick < 0 || tick > 1000000 || strokes.size() >= 60) {
            return -1;
        }
        strokes.add(tick);
        return strokes.size();
    }

    int clear() {
        int were = strokes.size();
        strokes = new ArrayList<>();
        return were;
    }

    private static final class Way {
        final long cost;
        final List<Integer> taken;

        Way(long cost, List<Integer> taken) {
            this.cost = cost;
            this.taken = taken;
        }

        /** Whether this one goes ahead of the other one: cheaper, or taking a STROKE that the other does not, where they first differ. */
        boolean ahead(Way other, int strokes) {
            if (other == null || cost != other.cost) {
                return other == null || cost < other.cost;
            }
            for (int i = 0; i < strokes; i++) {
                if (taken.contains(i) != other.taken.contains(i)) {
                    return taken.contains(i);
                }
            }
            return false;
        }
    }

    private static long pairCost(long d, int gap, int miss) {
        long m = 1;
        for (long tried = Math.max(1, d / gap - 2); tried <= d / gap + 2; tried++) {
            if (Math.abs(d - tried * gap) < Math.abs(d - m * gap)) {
                m = tried;
            }
        }
        return Math.abs(d - m * gap) + (m - 1) * miss;
    }

    /** From the front, with the whole WAY up to each STROKE kept. */
    private Way firstWay(int gap, int miss, int skip) {
        int count = strokes.size();
        Way[] upTo = new Way[count];
        Way first = null;
        for (int i = 0; i < count; i++) {
            upTo[i] = new Way((long) i * skip, List.of(i));
            for (int k = 0; k < i; k++) {
                List<Integer> taken = new ArrayList<>(upTo[k].taken);
                taken.add(i);
                Way way = new Way(upTo[k].cost + (long) (i - k - 1) * skip
                        + pairCost(strokes.get(i) - strokes.get(k), gap, miss), taken);
                if (way.ahead(upTo[i], count)) {
                    upTo[i] = way;
                }
            }
            Way whole = new Way(upTo[i].cost + (long) (count - 1 - i) * skip, upTo[i].taken);
            if (whole.ahead(first, count)) {
                first = whole;
            }
        }
        return first;
    }

    /** Every choice of STROKES, one by one. */
    private Way firstOfAll(int gap, int miss, int skip) {
        int count = strokes.size();
        Way first = null;
        for (int choice = 1; choice < 1 << count; choice++) {
            long cost = 0;
            List<Integer> taken = new ArrayList<>();
            for (int i = 0; i < count; i++) {
                if ((choice >> i & 1) == 0) {
                    cost += skip;
                } else {
                    if (!taken.isEmpty()) {
                        cost += pairCost(strokes.get(i) - strokes.get(taken.get(taken.size() - 1)), gap, miss);
                    }
                    taken.add(i);
                }
            }
            Way way = new Way(cost, taken);
            if (way.ahead(first, count)) {
                first = way;
            }
        }
        return first;
    }

    int find(int gap, int miss, int skip) {
        if (gap < 10 || gap > 1000 || miss < 0 || miss > 10000 || skip < 0 || skip > 10000 || strokes.isEmpty()) {
            return -1;
        }
        Way way = strokes.size() <= 9 ? firstOfAll(gap, miss, skip) : firstWay(gap, miss, skip);
        beats = way.taken;
        return (int) way.cost;
    }

    int found(int k) {
        return k < 0 || k >= beats.size() ? -1 : beats.get(k);
    }

    boolean costs(int newBound, int key, int heat) {
        if (newBound < 0 || newBound > 1000 || key < 0 || key > 1000 || heat < 0 || heat > 1000) {
            return false;
        }
        bound = newBound;
        keyCost = key;
        heatCost = heat;
        return true;
    }

    private static int keysApart(int key, int other) {
        int up = 0;
        while ((key + up) % 12 != other % 12) {
            up++;
        }
        int down = 0;
        while ((key + 12 - down) % 12 != other % 12) {
            down++;
        }
        return Math.min(up, down) + (key / 12 != other / 12 ? 1 : 0);
    }

    /** The cost, and into rows (if there are any) begin, length and BEND of each BEAT. */
    private int joinCost(int a, int b, int n, int p, int q, boolean phrases, int[][] rows) {
        Tune from = tunes.get(a);
        Tune into = tunes.get(b);
        if (from == null || into == null || a == b || n < 1 || n > 8) {
            return -1;
        }
        List<Integer> fromBars = from.playedBars();
        List<Integer> intoBars = into.playedBars();
        if (p < 0 || q < 0 || p >= fromBars.size() || q >= intoBars.size()) {
            return -1;
        }
        for (int i = 0; i < n; i++) {
            if (p + i >= fromBars.size() || q + i >= intoBars.size()
                    || from.bars[fromBars.get(p + i)] != 4 || into.bars[intoBars.get(q + i)] != 4) {
                return -2;
            }
        }
        if (phrases && (fromBars.get(p) % from.phrase != 0 || intoBars.get(q) % into.phrase != 0)) {
            return -3;
        }
        int cost = keyCost * keysApart(from.key, into.key) + heatCost * Math.abs(from.heat - into.heat);
        int begins = 0;
        boolean holds = true;
        for (int j = 0; j < 4 * n; j++) {
            int x = from.lasts(from.firstBeat(fromBars.get(p + j / 4)) + j % 4);
            int y = into.lasts(into.firstBeat(intoBars.get(q + j / 4)) + j % 4);
            int c = x + floor((long) (y - x) * j + 2L * n, 4L * n);
            int bend = Math.max(floor(Math.abs(c - x) * 1000L, x), floor(Math.abs(c - y) * 1000L, y));
            holds &= bend <= bound;
            cost += Math.abs(c - x) + Math.abs(c - y);
            if (rows != null) {
                rows[0][j] = begins;
                rows[1][j] = c;
                rows[2][j] = bend;
            }
            begins += c;
        }
        if (rows != null) {
            rows[0][4 * n] = begins;
        }
        return holds ? cost : -4;
    }

    int join(int a, int b, int n, int p, int q, boolean phrases) {
        int[][] rows = null;
        if (n >= 1 && n <= 8) {
            rows = new int[][] {new int[4 * n + 1], new int[4 * n], new int[4 * n]};
        }
        int cost = joinCost(a, b, n, p, q, phrases, rows);
        if (cost >= 0) {
            meeting = rows;
        }
        return cost;
    }

    int meets(int j, int what) {
        if (meeting == null || what < 0 || what > 2 || j < 0 || j >= meeting[what].length) {
            return -1;
        }
        return meeting[what][j];
    }

    private int[] theJoin(int a, int b, int n) {
        int[] least = null;
        for (int p = 0; p < 64; p++) {
            for (int q = 0; q < 64; q++) {
                int cost = joinCost(a, b, n, p, q, true, null);
                if (cost >= 0 && (least == null || cost < least[0] || cost == least[0] && p > least[1])) {
                    least = new int[] {cost, p, q};
                }
            }
        }
        return least;
    }

    int best(int a, int b, int n, int what) {
        if (what < 0 || what > 2) {
            return -1;
        }
        int[] least = theJoin(a, b, n);
        return least == null ? -1 : least[what];
    }

    boolean must(int a, int b, int how) {
        if (!tunes.containsKey(a) || !tunes.containsKey(b) || a == b || how < 0 || how > 2) {
            return false;
        }
        musts.put(a * 12 + b, how);
        return true;
    }

    private int nightCost;
    private List<Integer> nightOrder;
    private int[][] stepCost;

    int night(int n) {
        if (n < 1 || n > 8 || tunes.isEmpty()) {
            return -1;
        }
        stepCost = new int[12][12];
        for (int a : tunes.keySet()) {
            for (int b : tunes.keySet()) {
                int[] least = theJoin(a, b, n);
                stepCost[a][b] = least == null || musts.getOrDefault(a * 12 + b, 0) == 2 ? -1 : least[0];
            }
        }
        nightCost = Integer.MAX_VALUE;
        nightOrder = null;
        goOn(new ArrayList<>(), 0);
        if (nightOrder == null) {
            return -2;
        }
        nightTold = nightOrder;
        return nightCost;
    }

    /** All orders from the least one on; only a cheaper one takes the place of one that was found. */
    private void goOn(List<Integer> row, int cost) {
        if (cost >= nightCost) {
            return;
        }
        if (row.size() == tunes.size()) {
            if (mustsKept(row)) {
                nightCost = cost;
                nightOrder = new ArrayList<>(row);
            }
            return;
        }
        for (int s : tunes.keySet()) {
            if (row.contains(s)) {
                continue;
            }
            int step = row.isEmpty() ? 0 : stepCost[row.get(row.size() - 1)][s];
            if (step >= 0) {
                row.add(s);
                goOn(row, cost + step);
                row.remove(row.size() - 1);
            }
        }
    }

    private boolean mustsKept(List<Integer> row) {
        for (int pair : musts.keySet()) {
            int a = row.indexOf(pair / 12);
            boolean behind = a >= 0 && a + 1 < row.size() && row.get(a + 1) == pair % 12;
            if (musts.get(pair) == 1 && !behind || musts.get(pair) == 2 && behind) {
                return false;
            }
        }
        return true;
    }

    int order(int i) {
        return i < 0 || i >= nightTold.size() ? -1 : nightTold.get(i);
    }

    int mend(int slip, int step) {
        if (slip < -100000 || slip > 100000 || step < 20 || step > 400) {
            return -1;
        }
        int bent = floor((long) step * bound, 1000);
        int left = Math.abs(slip);
        if (left > 0 && bent == 0) {
            return -1;
        }
        int bars = 0;
        while (left > 0) {
            left -= 4 * bent;
            bars++;
        }
        return bars;
    }
}
