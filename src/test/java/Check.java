/** Counts and prints the answers that are not as due. */
final class Check {
    private int wrong = 0;
    private int looked = 0;
    private String title = "";

    void title(String newTitle) {
        title = newTitle;
    }

    /** A new object, for answers under this title. */
    MixDesk desk(String newTitle) {
        title(newTitle);
        return new MixDesk();
    }

    /** With even songs, numbered from 0 on, 8 BARS each, of these steps. */
    MixDesk deskOf(String newTitle, int... steps) {
        MixDesk x = desk(newTitle);
        for (int s = 0; s < steps.length; s++) {
            due("song " + s, x.song(s, 0, 8, steps[s], 0), true);
        }
        return x;
    }

    void due(String call, long got, long want) {
        looked++;
        if (got != want) {
            wrong++;
            if (wrong <= 40) {
                System.out.println(title + ": " + call + " answered " + got + ", due is " + want);
            }
        }
    }

    void due(String call, boolean got, boolean want) {
        due(call, got ? 1 : 0, want ? 1 : 0);
    }

    int looked() {
        return looked;
    }

    int wrong() {
        return wrong;
    }

    void end() {
        System.out.println(looked + " answers looked at, " + wrong + " not as due");
        if (wrong != 0) {
            System.exit(1);
        }
    }
}
