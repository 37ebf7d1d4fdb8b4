import java.util.ArrayList;
import java.util.List;

/**
 * A refused call must give its answer and change nothing behind it: two desks are told the same,
 * one of them gets the refused call too, and from then on both must answer alike.
 * The answers are asked for in parts, each of new desks, as a desk is used for 512 calls at most.
 */
final class Refused {
    interface Telling {
        void on(MixDesk desk);
    }

    interface Asking {
        int of(MixDesk desk);
    }

    interface Trying {
        boolean with(MixDesk desk);
    }

    private static final int PARTS = 4;

    private final Check check;
    private final Telling ground;

    /** On a desk that was told something of everything. */
    Refused(Check check) {
        this(check, Refused::tellAll);
        MixDesk x = check.desk("the ground of refused calls");
        tellAll(x);
        check.due("the ground's join stands", x.meets(4, 0) > 0, true);
        check.due("the ground's night stands", x.order(0) * 1000 + x.order(1) * 100 + x.order(2) * 10 + x.order(3), 132);
        check.due("the ground's beats stand", x.found(3), 4);
        check.due("another night is next", x.night(1) >= 0 && x.order(0) != 0, true);
    }

    Refused(Check check, Telling ground) {
        this.check = check;
        this.ground = ground;
    }

    void isFalse(String call, Trying trying) {
        answers(call, desk -> trying.with(desk) ? 1 : 0, 0);
    }

    void isNone(String call, Asking asking) {
        answers(call, asking, MixDesk.NONE);
    }

    void answers(String call, Asking asking, int due) {
        for (int part = 0; part < PARTS; part++) {
            MixDesk untouched = new MixDesk();
            MixDesk asked = new MixDesk();
            ground.on(untouched);
            ground.on(asked);
            check.due(call, asking.of(asked), due);
            List<Integer> want = ask(untouched, part);
            List<Integer> got = ask(asked, part);
            for (int i = 0; i < want.size(); i++) {
                check.due(call + ", and behind it answer " + i + " of part " + part, got.get(i), want.get(i));
            }
        }
    }

    /** The numbers next to low .. high that are not taken, and the farthest ones. */
    static int[] outside(int low, int high) {
        return new int[] {low - 1, high + 1, Integer.MIN_VALUE, Integer.MAX_VALUE};
    }

    private static void tellAll(MixDesk x) {
        x.song(0, 0, 4, 100, 0);
        x.song(1, 1, 6, 101, 2);
        x.song(2, 2, 8, 102, 1);
        x.song(3, 0, 5, 104, 0);
        x.about(0, 5, 3, 2);
        x.about(1, 17, 4, 1);
        x.about(2, 11, 9, 3);
        x.bar(1, 3, 2);
        x.bar(2, 7, 3);
        x.loop(1, 0, 1, 2);
        x.loop(2, 2, 3, 3);
        x.costs(90, 7, 3);
        x.stroke(5);
        x.stroke(105);
        x.stroke(150);
        x.stroke(207);
        x.stroke(405);
        x.find(100, 20, 30);
        x.stroke(500);
        x.join(0, 1, 1, 0, 1, false);
        x.must(0, 1, 1);
        x.must(3, 0, 2);
        x.night(1);
        // what is told next differs from what was told last
        x.must(0, 1, 0);
        x.must(3, 0, 0);
        x.must(3, 1, 1);
        x.must(2, 3, 2);
        x.about(3, 20, 1, 5);
    }

    private static List<Integer> ask(MixDesk x, int part) {
        List<Integer> row = new ArrayList<>();
        switch (part) {
            case 0: askSongs(x, row); break;
            case 1: askJoins(x, row); break;
            case 2: askNights(x, row); break;
            default: askStrokes(x, row);
        }
        return row;
    }

    private static void askSongs(MixDesk x, List<Integer> row) {
        for (int s = 0; s < 12; s++) {
            for (int what = 0; what < 10; what++) {
                row.add(x.of(s, what));
            }
            row.add(x.length(s));
        }
        for (int s = 0; s < 4; s++) {
            for (int k = 0; k <= 32; k++) {
                row.add(x.beat(s, k));
            }
            for (int p = 0; p <= 12; p++) {
                for (int what = 0; what < 3; what++) {
                    row.add(x.played(s, p, what));
                }
            }
        }
    }

    private static void askJoins(MixDesk x, List<Integer> row) {
        for (int what = 0; what < 3; what++) {
            for (int j = 0; j <= 5; j++) {
                row.add(x.meets(j, what));
            }
        }
        for (int a = 0; a < 4; a++) {
            for (int b = 0; b < 4; b++) {
                for (int n = 1; n <= 3; n++) {
                    for (int what = 0; what < 3; what++) {
                        row.add(x.best(a, b, n, what));
                    }
                    row.add(x.join(a, b, n, 1, 0, false));
                    row.add(x.join(a, b, n, 0, 0, true));
                }
            }
        }
    }

    private static void askNights(MixDesk x, List<Integer> row) {
        askOrder(x, row);
        for (int n = 1; n <= 3; n++) {
            row.add(x.night(n));
            askOrder(x, row);
        }
        for (int step = 20; step < 60; step++) {
            row.add(x.mend(100000, step));
        }
        // with more and more pairs that MUST NOT, what was told of the others is seen
        for (int a = 0; a < 4; a++) {
            for (int b = 0; b < 4; b++) {
                row.add(x.must(a, b, 2) ? 1 : 0);
                row.add(x.night(1));
                askOrder(x, row);
            }
        }
    }

    private static void askOrder(MixDesk x, List<Integer> row) {
        for (int i = 0; i < 6; i++) {
            row.add(x.order(i));
        }
    }

    private static void askStrokes(MixDesk x, List<Integer> row) {
        askFound(x, row);
        row.add(x.find(100, 20, 30));
        askFound(x, row);
        row.add(x.find(50, 0, 1000));
        askFound(x, row);
        row.add(x.stroke(500));
        row.add(x.stroke(501));
        row.add(x.find(50, 0, 1000));
        askFound(x, row);
        row.add(x.clear());
        askFound(x, row);
        row.add(x.stroke(0));
        row.add(x.clear());
    }

    private static void askFound(MixDesk x, List<Integer> row) {
        for (int k = 0; k <= 60; k++) {
            row.add(x.found(k));
        }
    }
}
