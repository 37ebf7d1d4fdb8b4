import java.util.Arrays;

/**
 * A desk at which songs that are known by their beats are led into one another.
 * The words in comments are those of the document.
 */
public final class MixDesk {
    public static final int NONE = -1;

    private static final int SONGS = 12;
    private static final int MOST_BARS = 64;
    private static final int WHOLE = 4;
    private static final int EVEN = 0;
    private static final int SWUNG = 1;
    private static final int CHANGING = 2;
    private static final int LEAST_STEP = 20;
    private static final int MOST_STEP = 400;
    private static final int LONGEST_JOIN = 8;
    private static final int MUST = 1;
    private static final int MUST_NOT = 2;
    private static final int NO_ANSWER = -1000;
    /** Far above every cost that the document's limits allow, and small enough to be added to one. */
    private static final int NEVER = 1 << 30;

    private final Song[] songs = new Song[SONGS];
    private final int[] wishes = new int[SONGS * SONGS];
    private final Strokes strokes = new Strokes();
    private final Joins joins = new Joins();
    private final Meeting meeting = new Meeting();
    private final Nights nights = new Nights();

    public MixDesk() {
    }

    public boolean song(int s, int kind, int bars, int step, int more) {
        if (!within(s, 0, SONGS - 1) || !canBeSong(kind, bars, step, more)) {
            return false;
        }
        forgetSong(s);
        songs[s] = new Song(s, kind, bars, step, more);
        return true;
    }

    public boolean about(int s, int key, int heat, int phrase) {
        Song told = songAt(s);
        if (told == null || !within(key, 0, 23) || !within(heat, 0, 9) || !within(phrase, 1, 16)) {
            return false;
        }
        told.key = key;
        told.heat = heat;
        told.phrase = phrase;
        joins.forgetJoinsOf(s);
        return true;
    }

    public boolean bar(int s, int bar, int beats) {
        Song told = songAt(s);
        if (told == null || !within(bar, 0, told.bars - 1) || !within(beats, 1, WHOLE)) {
            return false;
        }
        told.setBeats(bar, beats);
        joins.forgetJoinsOf(s);
        return true;
    }

    public boolean loop(int s, int a, int b, int n) {
        Song told = songAt(s);
        if (told == null || !told.canLoop(a, b, n)) {
            return false;
        }
        told.setLoop(a, b, n);
        joins.forgetJoinsOf(s);
        return true;
    }

    public boolean drop(int s) {
        if (songAt(s) == null) {
            return false;
        }
        forgetSong(s);
        songs[s] = null;
        return true;
    }

    public int of(int s, int what) {
        Song told = songAt(s);
        if (told == null) {
            return NO_ANSWER;
        }
        switch (what) {
            case 0: return told.kind;
            case 1: return told.bars;
            case 2: return told.step;
            case 3: return told.more;
            case 4: return told.key;
            case 5: return told.heat;
            case 6: return told.phrase;
            case 7: return told.playedBars;
            case 8: return told.beats();
            case 9: return told.brokenBars();
            default: return NO_ANSWER;
        }
    }

    public int beat(int s, int k) {
        Song told = songAt(s);
        if (told == null || !within(k, 0, told.beats())) {
            return NONE;
        }
        return told.tickOf[k];
    }

    public int played(int s, int p, int what) {
        Song told = songAt(s);
        if (told == null || !within(p, 0, told.playedBars - 1)) {
            return NONE;
        }
        switch (what) {
            case 0: return told.barAt[p];
            case 1: return told.tickAt[p];
            case 2: return told.beatsOf[told.barAt[p]];
            default: return NONE;
        }
    }

    public int length(int s) {
        Song told = songAt(s);
        return told == null ? NONE : told.tickAt[told.playedBars];
    }

    // ---- strokes

    public int stroke(int tick) {
        return strokes.add(tick);
    }

    public int clear() {
        return strokes.empty();
    }

    public int find(int gap, int miss, int skip) {
        if (!within(gap, 10, 1000) || !within(miss, 0, 10000) || !within(skip, 0, 10000)) {
            return NONE;
        }
        return strokes.seekBeats(gap, miss, skip);
    }

    public int found(int k) {
        return strokes.foundStroke(k);
    }

    // ---- joins

    public boolean costs(int bound, int key, int heat) {
        if (!within(bound, 0, 1000) || !within(key, 0, 1000) || !within(heat, 0, 1000)) {
            return false;
        }
        joins.setCosts(bound, key, heat);
        return true;
    }

    public int join(int a, int b, int n, int p, int q, boolean phrases) {
        Song from = songAt(a);
        Song into = songAt(b);
        if (from == null || into == null || a == b || !within(n, 1, LONGEST_JOIN)
                || !within(p, 0, from.playedBars - 1) || !within(q, 0, into.playedBars - 1)) {
            return -1;
        }
        if (from.wholeFrom[p] < n || into.wholeFrom[q] < n) {
            return -2;
        }
        if (phrases && !(from.beginsPhrase(p) && into.beginsPhrase(q))) {
            return -3;
        }
        int bent = joins.bentBy(from, into, n, p, q, NEVER);
        if (bent == NEVER) {
            return -4;
        }
        meeting.keep(from, into, n, p, q);
        return bent + joins.apart(from, into);
    }

    public int meets(int j, int what) {
        return meeting.tell(j, what);
    }

    public int best(int a, int b, int n, int what) {
        Song from = songAt(a);
        Song into = songAt(b);
        if (from == null || into == null || a == b || !within(n, 1, LONGEST_JOIN)) {
            return NONE;
        }
        int slot = joins.slotOf(from, into, n);
        if (joins.leastCost[slot] == NEVER) {
            return NONE;
        }
        switch (what) {
            case 0: return joins.leastCost[slot];
            case 1: return joins.leastP[slot];
            case 2: return joins.leastQ[slot];
            default: return NONE;
        }
    }

    // ---- nights

    public boolean must(int a, int b, int how) {
        if (songAt(a) == null || songAt(b) == null || a == b || !within(how, 0, 2)) {
            return false;
        }
        wishes[a * SONGS + b] = how;
        return true;
    }

    public int night(int n) {
        if (!within(n, 1, LONGEST_JOIN)) {
            return -1;
        }
        nights.gather(songs);
        if (nights.count == 0) {
            return -1;
        }
        for (int i = 0; i < nights.count; i++) {
            weighSteps(i, n);
        }
        return nights.seekOrder() ? nights.cost : -2;
    }

    public int order(int i) {
        return within(i, 0, nights.told - 1) ? nights.order[i] : NONE;
    }

    public int mend(int slip, int step) {
        if (!within(slip, -100000, 100000) || !within(step, LEAST_STEP, MOST_STEP)) {
            return NONE;
        }
        if (slip == 0) {
            return 0;
        }
        int perBar = WHOLE * (step * joins.bound / 1000);
        return perBar == 0 ? NONE : (Math.abs(slip) + perBar - 1) / perBar;
    }

    private static boolean within(int value, int low, int high) {
        return value >= low && value <= high;
    }

    private static boolean canBeSong(int kind, int bars, int step, int more) {
        if (!within(bars, 2, MOST_BARS) || !within(step, LEAST_STEP, MOST_STEP)) {
            return false;
        }
        switch (kind) {
            case EVEN: return true;
            case SWUNG: return within(more, 0, step - 10);
            case CHANGING: return within(more, -20, 20);
            default: return false;
        }
    }

    private Song songAt(int s) {
        return within(s, 0, SONGS - 1) ? songs[s] : null;
    }

    /** The next song of this number is another one: neither wishes nor joins of this one may outlive it. */
    private void forgetSong(int s) {
        for (int other = 0; other < SONGS; other++) {
            wishes[s * SONGS + other] = 0;
            wishes[other * SONGS + s] = 0;
        }
        joins.forgetJoinsOf(s);
    }

    /** What it costs to go from the night's song i to each other one, and whether it may begin the night. */
    private void weighSteps(int i, int n) {
        Song from = nights.songs[i];
        nights.mayBegin[i] = mustsInto(from.number) == 0;
        for (int j = 0; j < nights.count; j++) {
            Song into = nights.songs[j];
            boolean open = i != j && wishAllows(from.number, into.number);
            nights.step[i * SONGS + j] = open ? joins.leastCost[joins.slotOf(from, into, n)] : NEVER;
        }
    }

    /**
     * Each song is begun with, or comes behind one other song: so MUSTS are kept
     * if a song with a MUST into it never begins, and comes behind nothing else.
     */
    private boolean wishAllows(int a, int b) {
        int wish = wishes[a * SONGS + b];
        return wish != MUST_NOT && mustsInto(b) == (wish == MUST ? 1 : 0);
    }

    private int mustsInto(int b) {
        int count = 0;
        for (int a = 0; a < SONGS; a++) {
            count += wishes[a * SONGS + b] == MUST ? 1 : 0;
        }
        return count;
    }

    /** How long BEAT j of a JOIN lasts that lasts x in the one song and y in the other. */
    private static int blend(int x, int y, int j, int n) {
        return x + Math.floorDiv((y - x) * j + 2 * n, 4 * n);
    }

    private static int bendOf(int x, int y, int lasts) {
        return Math.max(Math.abs(lasts - x) * 1000 / x, Math.abs(lasts - y) * 1000 / y);
    }

    /** A SONG; its tables are made anew at each change, so that every answer is only read. */
    private static final class Song {
        final int number;
        final int kind;
        final int bars;
        final int step;
        final int more;
        int key = 0;
        int heat = 0;
        int phrase = 4;
        int loopFrom = 0;
        int loopTo = 0;
        int loopTimes = 1;
        int playedBars;
        final int[] beatsOf = new int[MOST_BARS];
        final int[] firstOf = new int[MOST_BARS + 1];
        final int[] tickOf = new int[MOST_BARS * WHOLE + 1];
        final int[] barAt = new int[MOST_BARS];
        final int[] tickAt = new int[MOST_BARS + 1];
        /** How many PLAYED BARS in a row, from each on, are there and not BROKEN. */
        final int[] wholeFrom = new int[MOST_BARS + 1];
        /** How long the BEATS of PLAYED BARS last, four places for each. */
        final int[] lastsAt = new int[MOST_BARS * WHOLE];

        Song(int number, int kind, int bars, int step, int more) {
            this.number = number;
            this.kind = kind;
            this.bars = bars;
            this.step = step;
            this.more = kind == EVEN ? 0 : more;
            Arrays.fill(beatsOf, WHOLE);
            layOutBeats();
            layOutPlayedBars();
        }

        void setBeats(int bar, int beats) {
            beatsOf[bar] = beats;
            layOutBeats();
            layOutPlayedBars();
        }

        boolean canLoop(int a, int b, int times) {
            return a >= 0 && a <= b && b < bars && within(times, 1, 4)
                    && bars + (times - 1) * (b - a + 1) <= MOST_BARS;
        }

        void setLoop(int a, int b, int times) {
            loopFrom = a;
            loopTo = b;
            loopTimes = times;
            layOutPlayedBars();
        }

        int beats() {
            return firstOf[bars];
        }

        int brokenBars() {
            int broken = 0;
            for (int bar = 0; bar < bars; bar++) {
                broken += beatsOf[bar] < WHOLE ? 1 : 0;
            }
            return broken;
        }

        boolean beginsPhrase(int p) {
            return barAt[p] % phrase == 0;
        }

        /** Whether n whole PLAYED BARS last the same, BEAT for BEAT, from p on and from q on. */
        boolean soundsAlike(int p, int q, int n) {
            for (int j = 0; j < WHOLE * n; j++) {
                if (lastsAt[WHOLE * p + j] != lastsAt[WHOLE * q + j]) {
                    return false;
                }
            }
            return true;
        }

        private void layOutBeats() {
            int k = 0;
            int tick = 0;
            for (int bar = 0; bar < bars; bar++) {
                firstOf[bar] = k;
                for (int i = 0; i < beatsOf[bar]; i++) {
                    tickOf[k] = tick;
                    tick += lasting(k);
                    k++;
                }
            }
            firstOf[bars] = k;
            tickOf[k] = tick;
        }

        private void layOutPlayedBars() {
            playedBars = bars + (loopTimes - 1) * (loopTo - loopFrom + 1);
            int tick = 0;
            for (int p = 0; p < playedBars; p++) {
                int bar = barPlayed(p);
                barAt[p] = bar;
                tickAt[p] = tick;
                for (int i = 0; i < beatsOf[bar]; i++) {
                    int k = firstOf[bar] + i;
                    lastsAt[WHOLE * p + i] = tickOf[k + 1] - tickOf[k];
                    tick += lastsAt[WHOLE * p + i];
                }
            }
            tickAt[playedBars] = tick;
            wholeFrom[playedBars] = 0;
            for (int p = playedBars - 1; p >= 0; p--) {
                wholeFrom[p] = beatsOf[barAt[p]] == WHOLE ? wholeFrom[p + 1] + 1 : 0;
            }
        }

        private int lasting(int k) {
            switch (kind) {
                case SWUNG:
                    return k % 2 == 0 ? step + more : step - more;
                case CHANGING:
                    return Math.max(LEAST_STEP, Math.min(MOST_STEP, step + Math.floorDiv(k * more, 16)));
                default:
                    return step;
            }
        }

        private int barPlayed(int p) {
            int looped = loopTo - loopFrom + 1;
            if (p < loopFrom) {
                return p;
            }
            if (p < loopFrom + loopTimes * looped) {
                return loopFrom + (p - loopFrom) % looped;
            }
            return p - (loopTimes - 1) * looped;
        }
    }

    /** The STROKES, and THE BEATS that were found last in them. */
    private static final class Strokes {
        static final int MOST = 60;
        static final int LAST_TICK = 1000000;
        final int[] ticks = new int[MOST];
        int count = 0;
        /** The least that is still to pay behind a STROKE that is taken, and the STROKE that is taken next. */
        final int[] restCost = new int[MOST];
        final int[] nextTaken = new int[MOST];
        final int[] taken = new int[MOST];
        int takenCount = 0;

        int add(int tick) {
            if (count >= MOST || !within(tick, 0, LAST_TICK) || (count > 0 && tick <= ticks[count - 1])) {
                return NONE;
            }
            ticks[count] = tick;
            count++;
            return count;
        }

        int empty() {
            int were = count;
            count = 0;
            return were;
        }

        int foundStroke(int k) {
            return within(k, 0, takenCount - 1) ? taken[k] : NONE;
        }

        int seekBeats(int gap, int miss, int skip) {
            if (count == 0) {
                return NONE;
            }
            for (int i = count - 1; i >= 0; i--) {
                chooseNext(i, gap, miss, skip);
            }
            int first = 0;
            for (int i = 1; i < count; i++) {
                if (i * skip + restCost[i] < first * skip + restCost[first]) {
                    first = i;
                }
            }
            keepBeats(first);
            return first * skip + restCost[first];
        }

        /** Of equal costs the earliest next STROKE stays, and none at all comes last: so the first WAY is chosen. */
        private void chooseNext(int i, int gap, int miss, int skip) {
            restCost[i] = NEVER;
            nextTaken[i] = count;
            for (int next = i + 1; next < count; next++) {
                int cost = (next - i - 1) * skip + gapCost(ticks[next] - ticks[i], gap, miss) + restCost[next];
                if (cost < restCost[i]) {
                    restCost[i] = cost;
                    nextTaken[i] = next;
                }
            }
            int end = (count - 1 - i) * skip;
            if (end < restCost[i]) {
                restCost[i] = end;
                nextTaken[i] = count;
            }
        }

        private static int gapCost(int apart, int gap, int miss) {
            int gaps = Math.max(1, (2 * apart + gap - 1) / (2 * gap));
            return Math.abs(apart - gaps * gap) + (gaps - 1) * miss;
        }

        private void keepBeats(int first) {
            takenCount = 0;
            int next = first;
            for (int i = first; i < count; i++) {
                if (i == next) {
                    taken[takenCount] = i;
                    takenCount++;
                    next = nextTaken[i];
                }
            }
        }
    }

    /** What JOINS cost; THE JOINS that were found are kept until a song or a cost changes. */
    private static final class Joins {
        static final int UNKNOWN = -1;
        int bound = 80;
        int keyCost = 10;
        int heatCost = 5;
        final int[] leastCost = new int[LONGEST_JOIN * SONGS * SONGS];
        final int[] leastP = new int[LONGEST_JOIN * SONGS * SONGS];
        final int[] leastQ = new int[LONGEST_JOIN * SONGS * SONGS];
        final int[] late = new int[MOST_BARS];
        final int[] early = new int[MOST_BARS];

        Joins() {
            Arrays.fill(leastCost, UNKNOWN);
        }

        void setCosts(int newBound, int newKeyCost, int newHeatCost) {
            bound = newBound;
            keyCost = newKeyCost;
            heatCost = newHeatCost;
            Arrays.fill(leastCost, UNKNOWN);
        }

        void forgetJoinsOf(int s) {
            for (int n = 1; n <= LONGEST_JOIN; n++) {
                for (int other = 0; other < SONGS; other++) {
                    leastCost[slot(s, other, n)] = UNKNOWN;
                    leastCost[slot(other, s, n)] = UNKNOWN;
                }
            }
        }

        /** Where the cost (NEVER if there is none), p and q of THE JOIN stand. */
        int slotOf(Song from, Song into, int n) {
            int slot = slot(from.number, into.number, n);
            if (leastCost[slot] == UNKNOWN) {
                seekJoin(from, into, n, slot);
            }
            return slot;
        }

        /** What the BEATS cost; NEVER if the JOIN does not hold, or as soon as the cost comes up to the limit. */
        int bentBy(Song from, Song into, int n, int p, int q, int limit) {
            int cost = 0;
            for (int j = 0; j < WHOLE * n; j++) {
                int x = from.lastsAt[WHOLE * p + j];
                int y = into.lastsAt[WHOLE * q + j];
                int lasts = blend(x, y, j, n);
                cost += Math.abs(lasts - x) + Math.abs(lasts - y);
                if (cost >= limit || bendOf(x, y, lasts) > bound) {
                    return NEVER;
                }
            }
            return cost;
        }

        int apart(Song from, Song into) {
            int round = Math.abs(from.key % 12 - into.key % 12);
            int keys = Math.min(round, 12 - round) + (from.key / 12 == into.key / 12 ? 0 : 1);
            return keyCost * keys + heatCost * Math.abs(from.heat - into.heat);
        }

        private static int slot(int a, int b, int n) {
            return ((n - 1) * SONGS + a) * SONGS + b;
        }

        /** The greatest p and the least q are tried first: what comes later must be cheaper. */
        private void seekJoin(Song from, Song into, int n, int slot) {
            int lateCount = listLate(from, n);
            int earlyCount = listEarly(into, n);
            int least = NEVER;
            for (int i = 0; i < lateCount; i++) {
                for (int k = 0; k < earlyCount; k++) {
                    int bent = bentBy(from, into, n, late[i], early[k], least);
                    if (bent < least) {
                        least = bent;
                        leastP[slot] = late[i];
                        leastQ[slot] = early[k];
                    }
                }
            }
            leastCost[slot] = least == NEVER ? NEVER : least + apart(from, into);
        }

        /** A beginning that sounds like the one listed ahead of it costs the same, and gives way to that: it is left out. */
        private int listLate(Song from, int n) {
            int count = 0;
            for (int p = from.playedBars - n; p >= 0; p--) {
                if (canBegin(from, p, n) && (count == 0 || !from.soundsAlike(p, late[count - 1], n))) {
                    late[count] = p;
                    count++;
                }
            }
            return count;
        }

        private int listEarly(Song into, int n) {
            int count = 0;
            for (int q = 0; q <= into.playedBars - n; q++) {
                if (canBegin(into, q, n) && (count == 0 || !into.soundsAlike(q, early[count - 1], n))) {
                    early[count] = q;
                    count++;
                }
            }
            return count;
        }

        private static boolean canBegin(Song song, int p, int n) {
            return song.wholeFrom[p] >= n && song.beginsPhrase(p);
        }
    }

    /** The BEATS of the latest JOIN that a cost was told of, as its songs were then. */
    private static final class Meeting {
        int beats = 0;
        final int[] begins = new int[WHOLE * LONGEST_JOIN + 1];
        final int[] lasts = new int[WHOLE * LONGEST_JOIN];
        final int[] bends = new int[WHOLE * LONGEST_JOIN];

        void keep(Song from, Song into, int n, int p, int q) {
            beats = WHOLE * n;
            begins[0] = 0;
            for (int j = 0; j < beats; j++) {
                int x = from.lastsAt[WHOLE * p + j];
                int y = into.lastsAt[WHOLE * q + j];
                lasts[j] = blend(x, y, j, n);
                bends[j] = bendOf(x, y, lasts[j]);
                begins[j + 1] = begins[j] + lasts[j];
            }
        }

        int tell(int j, int what) {
            if (beats == 0 || !within(j, 0, what == 0 ? beats : beats - 1)) {
                return NONE;
            }
            switch (what) {
                case 0: return begins[j];
                case 1: return lasts[j];
                case 2: return bends[j];
                default: return NONE;
            }
        }
    }

    /** The search for THE NIGHT, and the latest one that was told. */
    private static final class Nights {
        final Song[] songs = new Song[SONGS];
        int count = 0;
        final int[] step = new int[SONGS * SONGS];
        final boolean[] mayBegin = new boolean[SONGS];
        /** The least that is still to pay once a set of songs has been played, by set and song played last. */
        int[] rest = new int[0];
        int cost = NEVER;
        final int[] order = new int[SONGS];
        int told = 0;

        void gather(Song[] all) {
            count = 0;
            for (int s = 0; s < SONGS; s++) {
                if (all[s] != null) {
                    songs[count] = all[s];
                    count++;
                }
            }
        }

        /** Whether there is a NIGHT; only then the one told ahead of it is given up. */
        boolean seekOrder() {
            int full = (1 << count) - 1;
            // as large as so many songs need, not as twelve do: most nights are small
            if (rest.length < (full + 1) * count) {
                rest = new int[(full + 1) * count];
            }
            for (int last = 0; last < count; last++) {
                rest[full * count + last] = 0;
            }
            for (int set = full - 1; set > 0; set--) {
                weighSet(set);
            }
            int first = leastFirst();
            if (first == NONE) {
                return false;
            }
            cost = rest[(1 << first) * count + first];
            keepOrder(first);
            return true;
        }

        private void weighSet(int set) {
            for (int last = 0; last < count; last++) {
                if ((set >> last & 1) == 1) {
                    int next = leastNext(set, last);
                    rest[set * count + last] = next == NONE ? NEVER : costOver(set, last, next);
                }
            }
        }

        private int leastFirst() {
            int first = NONE;
            int least = NEVER;
            for (int i = 0; i < count; i++) {
                int whole = rest[(1 << i) * count + i];
                if (mayBegin[i] && whole < least) {
                    least = whole;
                    first = i;
                }
            }
            return first;
        }

        /** The least song of those with which the rest costs least; NONE if there is no way on. */
        private int leastNext(int set, int last) {
            int next = NONE;
            int least = NEVER;
            for (int j = 0; j < count; j++) {
                if ((set >> j & 1) == 0 && step[last * SONGS + j] < NEVER) {
                    int whole = costOver(set, last, j);
                    if (whole < least) {
                        least = whole;
                        next = j;
                    }
                }
            }
            return next;
        }

        private int costOver(int set, int last, int next) {
            int behind = rest[(set | 1 << next) * count + next];
            return behind == NEVER ? NEVER : step[last * SONGS + next] + behind;
        }

        private void keepOrder(int first) {
            int set = 1 << first;
            int last = first;
            order[0] = songs[first].number;
            for (int i = 1; i < count; i++) {
                int next = leastNext(set, last);
                if (next == NONE) {
                    return;
                }
                set |= 1 << next;
                last = next;
                order[i] = songs[next].number;
            }
            told = count;
        }
    }
}
