/** Promises 19, 20, 34: logs and chances, worked out by hand. */
public final class LogsTest {
    private static final int NONE = ReedOracles.NONE;
    private static final Bench BENCH = new Bench();
    /** Breath 7 and depth 1 make 8: the note is 3 times the wet, and the key, less the cold. */
    private static final String PLAIN = "player 7;question 1 0;question 9 0;";

    public static void main(String[] args) {
        fits();
        sure();
        next();
        missing();
        odds();
        left();
        BENCH.finish();
    }

    private static void fits() {
        ReedOracles x = Bench.duchyAnd("reed 0 1;reed 3 0;reed 3 1;reed 8 1;" + PLAIN, 2, "heard 0 0 1;");
        // Of each wet one key.
        BENCH.due("ten fit", x.fits(0, 0, 0), 10);
        int[] keys = {1, 6, 3, 0, 5, 2, 7, 4, 1, 6};
        for (int wet = 0; wet < 10; wet++) {
            BENCH.due("the " + wet + "th", x.fits(0, 0, 10 + wet), 8 * wet + keys[wet]);
        }
        BENCH.due("the 10th", x.fits(0, 0, 20), -2);
        BENCH.due("whose", x.fits(0, 0, 3), 1 + 2 + 8);
        BENCH.due("no sure wet", x.fits(0, 0, 1), NONE);
        BENCH.due("no sure key", x.fits(0, 0, 2), NONE);
        int[] whats = {-1, 5, 9, 90, Integer.MAX_VALUE, Integer.MIN_VALUE};
        for (int what : whats) {
            BENCH.due("what " + what, x.fits(0, 0, what), -2);
        }
        ReedOracles all = Bench.duchyAnd(PLAIN, 2, "");
        BENCH.due("all fit an empty log", all.fits(0, 0, 0), 80);
        BENCH.due("the first", all.fits(0, 0, 10), 0);
        BENCH.due("the last", all.fits(0, 0, 89), 79);
        BENCH.due("no more", all.fits(0, 0, 90), -2);
        ReedOracles none = Bench.duchyAnd("reed 1 1;" + PLAIN, 2, "heard 0 0 1;cough 0 0;");
        BENCH.row("nothing fits", new long[] {none.fits(0, 0, 0), none.fits(0, 0, 1), none.fits(0, 0, 2), none.fits(0, 0, 3), none.fits(0, 0, 4), none.fits(0, 0, 10)},
            0, -1, -1, 0, -1, -2);
    }

    private static void sure() {
        // Depth 9 coughs, when wet is below 2: behind one more, first wet 2 alone fits not coughing, then coughing.
        ReedOracles wet = Bench.duchyAnd("reed 2 5;" + PLAIN, 2, "heard 0 1 3;cough 0 1;");
        // 6 and 16 and the key: note 3 is key 5.
        BENCH.row("one", new long[] {wet.fits(0, 0, 0), wet.fits(0, 0, 1), wet.fits(0, 0, 2), wet.fits(0, 0, 3), wet.fits(0, 0, 10)}, 1, 2, 5, 1, 21);
        ReedOracles coughs = Bench.duchyAnd("reed 2 5;" + PLAIN, 2, "cough 0 1;");
        BENCH.row("wet 0 and 1", new long[] {coughs.fits(0, 0, 0), coughs.fits(0, 0, 1), coughs.fits(0, 0, 2)}, 16, -1, -1);
        // Wet 0 stays 0, so the same note twice tells it; wet 8 less is the same note again, which no wet has.
        ReedOracles dry = Bench.duchyAnd(PLAIN, 2, "heard 0 0 4;heard 0 0 4;");
        BENCH.row("dry", new long[] {dry.fits(0, 0, 0), dry.fits(0, 0, 1), dry.fits(0, 0, 2)}, 1, 0, 4);
        ReedOracles key = Bench.duchyAnd(PLAIN, 2, "cough 0 1;heard 0 0 6;");
        BENCH.row("key 6, wet 0 or 1", new long[] {key.fits(0, 0, 0), key.fits(0, 0, 1), key.fits(0, 0, 2)}, 2, -1, 6);
        ReedOracles oneWet = Bench.duchyAnd("player 1;question 10 0;cold 1;", 2, "heard 0 0 5;");
        BENCH.row("wet 9", new long[] {oneWet.fits(0, 0, 0), oneWet.fits(0, 0, 1), oneWet.fits(0, 0, 2)}, 1, 9, 0);
    }

    private static void next() {
        ReedOracles x = Bench.duchyAnd("player 1;player 7;question 15 0;question 1 0;question 9 0;", 2, "");
        // All cough by question 0; by question 1 each note comes ten times; by player 1, question 2 some cough.
        BENCH.due("the least greatest heap, the first of several", x.fits(0, 0, 4), 1);
        ReedOracles players = Bench.duchyAnd("player 1;player 7;question 9 0;", 2, "");
        BENCH.due("ten times the player", players.fits(0, 0, 4), 10);
        BENCH.due("no questions", Bench.duchyAnd("player 1;", 2, "").fits(0, 0, 4), NONE);
        BENCH.due("no players", Bench.duchyAnd("question 1 0;", 2, "").fits(0, 0, 4), NONE);
    }

    private static void missing() {
        ReedOracles x = Bench.duchyAnd(PLAIN, 2, "heard 1 0 1;");
        BENCH.due("no such player", x.fits(0, 0, 0), -2);
        BENCH.due("odds without him", x.odds(0, 0, 0, 0, 0, false), NONE);
        ReedOracles y = Bench.duchyAnd(PLAIN, 2, "heard 0 0 1;cough 0 2;");
        BENCH.due("no such question", y.fits(0, 0, 3), -2);
        BENCH.due("odds without it", y.odds(0, 0, 0, 0, 0, true), NONE);
        ReedOracles z = Bench.duchyAnd(PLAIN, 2, "");
        BENCH.due("no duchy", z.fits(1, 0, 0), -2);
        BENCH.due("no duchy", z.fits(-1, 0, 0), -2);
        BENCH.due("no log", z.fits(0, 1, 0), -2);
        BENCH.due("no log", z.fits(0, -1, 0), -2);
    }

    private static void odds() {
        ReedOracles x = Bench.duchyAnd(PLAIN + "means 0 wait;", 2, "heard 0 0 1;");
        // Of ten that fit: wet 0 has note 1 again, the others 3 less: note 6.
        BENCH.row("yes", new long[] {x.odds(0, 0, 0, 0, 1, false), x.odds(0, 0, 0, 0, 1, true)}, 1, 10);
        BENCH.row("no", new long[] {x.odds(0, 0, 0, 0, 0, false), x.odds(0, 0, 0, 0, 0, true)}, 9, 10);
        BENCH.row("wait", new long[] {x.odds(0, 0, 0, 0, 2, false), x.odds(0, 0, 0, 0, 2, true)}, 0, 1);
        // By question 1 wet 0, 1, 2 cough next; wet 3 and more have 16 and 3 less: note 6.
        BENCH.row("least terms", new long[] {x.odds(0, 0, 0, 1, 0, false), x.odds(0, 0, 0, 1, 0, true)}, 7, 10);
        ReedOracles sure = Bench.duchyAnd(PLAIN, 2, "heard 0 0 4;heard 0 0 4;");
        BENCH.row("sure", new long[] {sure.odds(0, 0, 0, 0, 0, false), sure.odds(0, 0, 0, 0, 0, true)}, 1, 1);
        ReedOracles all = Bench.duchyAnd(PLAIN, 2, "");
        BENCH.row("half", new long[] {all.odds(0, 0, 0, 0, 0, false), all.odds(0, 0, 0, 0, 0, true)}, 1, 2);
        BENCH.due("answer 3", x.odds(0, 0, 0, 0, 3, false), NONE);
        BENCH.due("answer -1", x.odds(0, 0, 0, 0, -1, true), NONE);
        BENCH.due("no player", x.odds(0, 0, 1, 0, 0, false), NONE);
        BENCH.due("no question", x.odds(0, 0, 0, 2, 0, false), NONE);
        BENCH.due("no duchy", x.odds(1, 0, 0, 0, 0, false), NONE);
        BENCH.due("no log", x.odds(0, 1, 0, 0, 0, false), NONE);
        ReedOracles none = Bench.duchyAnd(PLAIN, 2, "heard 0 0 1;cough 0 0;");
        BENCH.due("nothing fits", none.odds(0, 0, 0, 0, 0, false), NONE);
        BENCH.due("nothing fits", none.odds(0, 0, 0, 0, 0, true), NONE);
    }

    private static void left(int n, int k, int y, int p, long over, long under) {
        ReedOracles x = new ReedOracles();
        BENCH.row("left " + n + " " + k + " " + y + " " + p, new long[] {x.left(n, k, y, p, false), x.left(n, k, y, p, true)}, over, under);
    }

    private static void left() {
        left(2, 1, 1, 5, 3, 4);
        left(1, 1, 2, 5, 1, 4);
        left(1, 1, 1, 3, 7, 10);
        left(3, 3, 1, 1, 729, 1000);
        left(3, 2, 1, 1, 243, 250);
        left(6, 6, 3, 1, 150094635296999121L, 1000000000000000000L);
        left(6, 1, 3, 10, 0, 1);
        left(6, 1, 0, 10, 1, 1);
        left(6, 6, 3, 0, 1, 1);
        left(0, 0, 3, 5, 1, 1);
        left(0, 1, 3, 5, 0, 1);
        left(2, 3, 1, 5, 0, 1);
        int[][] wrong = {{-1, 0, 0, 0}, {7, 0, 0, 0}, {0, -1, 0, 0}, {0, 7, 0, 0}, {0, 0, -1, 0}, {0, 0, 4, 0},
            {0, 0, 0, -1}, {0, 0, 0, 11}};
        for (int[] w : wrong) {
            left(w[0], w[1], w[2], w[3], NONE, NONE);
        }
    }
}
