/** Boundary cases of promises 19, 20 and 34: logs, what fits them, and chances. */
public final class EdgesLogsTest {
    private static final int NONE = ReedOracles.NONE;
    private static final Edges EDGES = new Edges(19, 20, 34);
    /** Breath 7 and depth 1 make 8: the note is 3 times the wet, and the key, less the cold. */
    private static final String PLAIN = "player 7;question 1 0;";
    /** By question 1 a reed that is less than 2 wet coughs. */
    private static final String DEEP = "player 7;question 1 0;question 9 0;";

    public static void main(String[] args) {
        fitting();
        kth();
        sure();
        whose();
        next();
        nextEdges();
        fitsMissing();
        left();
        leftRefused();
        odds();
        oddsRefused();
        EDGES.finish();
    }

    private static void fits(String duchy, String log, int what, int want) {
        EDGES.due("fits, what " + what + ", of " + duchy + " " + log, Bench.duchyAnd(duchy, 2, log).fits(0, 0, what), want);
    }

    private static void fitting() {
        EDGES.of(19, "one REED, not told, was asked, one FACT behind the other, WET being 1 less by each, 0 at least: its first WET, 0 .. 9, and KEY (8 times the WET, and the KEY) FIT, if each FACT is so: how many");
        fits(PLAIN, "", 0, 80);
        fits(PLAIN, "heard 0 0 0;", 0, 10);
        fits(PLAIN, "cough 0 0;", 0, 0);
        fits(DEEP, "cough 0 1;", 0, 16);
        fits(DEEP, "heard 0 1 0;", 0, 8);
        // Wet 0 stays: the same note for ever is wet 0 alone.
        fits(PLAIN, "heard 0 0 5;".repeat(8), 0, 1);
        fits(PLAIN, "heard 0 0 5;".repeat(8), 10, 5);
        // Wet 1, then 0 and 0: 3 and 6 are 9; then 6.
        fits(PLAIN, "heard 0 0 1;heard 0 0 6;heard 0 0 6;", 0, 1);
        fits(PLAIN, "heard 0 0 1;heard 0 0 6;heard 0 0 6;", 10, 14);
        // Wet 9 is the wettest: by breath 6 depth 15 is heard by it alone; then by none.
        fits("player 6;question 15 0;", "heard 0 0 7;", 0, 1);
        fits("player 6;question 15 0;", "heard 0 0 7;", 10, 79);
        fits("player 6;question 15 0;", "heard 0 0 7;cough 0 0;", 0, 1);
        fits("player 6;question 15 0;", "heard 0 0 7;heard 0 0 4;", 0, 0);
        fits("player 6;question 15 0;", "cough 0 0;", 0, 72);
        fits("player 5;question 15 0;", "cough 0 0;", 0, 80);
        // Eight facts: from wet 9 down to 2.
        fits("player 7;question 9 0;", "heard 0 0 3;heard 0 0 0;heard 0 0 5;heard 0 0 2;heard 0 0 7;heard 0 0 4;heard 0 0 1;heard 0 0 6;", 0, 1);
        fits("player 7;question 9 0;", "heard 0 0 3;heard 0 0 0;heard 0 0 5;heard 0 0 2;heard 0 0 7;heard 0 0 4;heard 0 0 1;heard 0 0 6;", 10, 72);
        // The cold of the duchy counts: 5 less.
        fits("cold 5;" + PLAIN, "heard 0 0 0;".repeat(8), 10, 5);
    }

    private static void kth() {
        EDGES.of(19, "the k-th, by numbers");
        ReedOracles all = Bench.duchyAnd(PLAIN, 2, "");
        for (int k = 0; k < 80; k++) {
            EDGES.due("the " + k + "-th of all", all.fits(0, 0, 10 + k), k);
        }
        EDGES.due("the 80th", all.fits(0, 0, 90), -2);
        ReedOracles ten = Bench.duchyAnd(PLAIN, 2, "heard 0 0 1;");
        int[] keys = {1, 6, 3, 0, 5, 2, 7, 4, 1, 6};
        for (int wet = 0; wet < 10; wet++) {
            EDGES.due("the " + wet + "-th of ten", ten.fits(0, 0, 10 + wet), 8 * wet + keys[wet]);
        }
        EDGES.due("the tenth of ten", ten.fits(0, 0, 20), -2);
        fits(PLAIN, "cough 0 0;", 10, -2);
    }

    private static void sure() {
        EDGES.of(19, "SURE of the WET, of the KEY: it, if it is one in all");
        fits("player 9;question 10 0;", "cough 0 0;cough 0 0;", 1, 0);
        fits("player 8;question 10 0;", "cough 0 0;cough 0 0;", 1, NONE);
        EDGES.of(19, "What 0: how many FIT, 1, 2: SURE of the WET, of the KEY (NONE: not one), 3: WHOSE (bits)");
        fits(PLAIN, "", 1, NONE);
        fits(PLAIN, "", 2, NONE);
        fits(PLAIN, "cough 0 0;", 1, NONE);
        fits(PLAIN, "cough 0 0;", 2, NONE);
        // Wets 8 and 9, keys 4 and 1: 24, 6, 14 and 4; 27, 6, 14 and 1.
        fits("player 6;question 14 0;", "heard 0 0 0;", 0, 2);
        fits("player 6;question 14 0;", "heard 0 0 0;", 1, NONE);
        fits("player 6;question 14 0;", "heard 0 0 0;", 2, NONE);
        // The dry one: one wet and one key.
        fits(PLAIN, "heard 0 0 7;heard 0 0 7;", 1, 0);
        fits(PLAIN, "heard 0 0 7;heard 0 0 7;", 2, 7);
        fits("player 6;question 15 0;", "heard 0 0 0;", 1, 9);
        fits("player 6;question 15 0;", "heard 0 0 0;", 2, 0);
        // Wet 0 or 1, then dry: one key of two wets.
        fits(DEEP, "cough 0 1;heard 0 0 6;", 0, 2);
        fits(DEEP, "cough 0 1;heard 0 0 6;", 1, NONE);
        fits(DEEP, "cough 0 1;heard 0 0 6;", 2, 6);
        // By breath 6 depth 15 and 14: it coughs by the one, not by the other behind it, which none does.
        fits("player 6;question 15 0;question 14 0;", "cough 0 0;heard 0 1 0;", 0, 0);
        // By breath 9 the dry one alone coughs by depth 10: one wet of all keys.
        fits("player 9;question 10 0;", "cough 0 0;", 1, 0);
        fits("player 9;question 10 0;", "cough 0 0;", 2, NONE);
        fits("player 9;question 10 0;", "cough 0 0;", 0, 8);
    }

    private static void whose() {
        EDGES.of(19, "WHOSE: REEDS of the DUCHY (bits) that FIT so.");
        fits(PLAIN, "", 3, 0);
        fits("reed 0 0;".repeat(6) + PLAIN, "", 3, 63);
        fits("reed 0 0;".repeat(6) + PLAIN, "heard 0 0 1;", 3, 0);
        fits("reed 0 1;reed 3 0;reed 3 1;reed 8 1;reed 0 0;reed 9 6;" + PLAIN, "heard 0 0 1;", 3, 1 + 2 + 8 + 32);
        fits("reed 0 1;reed 1 6;reed 0 0;" + PLAIN, "heard 0 0 1;heard 0 0 6;", 3, 2);
        fits("reed 0 1;reed 1 6;reed 0 0;" + PLAIN, "heard 0 0 1;heard 0 0 1;", 3, 1);
        fits("reed 0 0;reed 1 0;reed 2 0;" + DEEP, "cough 0 1;", 3, 3);
        fits("reed 0 0;" + PLAIN, "cough 0 0;", 3, 0);
    }

    private static void next() {
        EDGES.of(19, "NEXT: the PLAYER and QUESTION (10 times the PLAYER, and the QUESTION) by which, asked next, of those that FIT the greatest number that have one and the same NOTE, or COUGH, is least, of several the least.");
        fits(PLAIN, "", 4, 0);
        // By question 0 all cough, 80; by question 1 each note comes ten times.
        fits("player 1;question 15 0;question 1 0;", "", 4, 1);
        fits("player 1;question 1 0;question 1 0;", "", 4, 0);
        // By player 0 all cough, by player 1 wet 9 alone does not: 72 cough.
        fits("player 5;player 6;question 15 0;", "", 4, 10);
        fits("player 1;player 1;player 1;player 2;question 11 0;", "", 4, 30);
        fits("player 1;player 1;player 1;player 2;" + "question 15 0;".repeat(7) + "question 11 0;", "", 4, 37);
        // Wet 0 or 1, key 6 or 3, has note 6: next both are dry, and no question tells more than another.
        fits("player 7;question 9 0;question 1 0;", "cough 0 0;heard 0 1 6;", 0, 2);
        fits("player 7;question 9 0;question 1 0;", "cough 0 0;heard 0 1 6;", 4, 0);
        // Keys 6, 6 and 3 of wets 0, 1 and 2, all dry next: question 0 has coughs alone, question 1 notes 6, 6 and 3.
        fits("player 7;question 10 0;question 1 0;", "cough 0 0;heard 0 1 6;", 4, 1);
        // Of ten wets, 1 less each, six are too dry for depth 12, five for depth 11; the others have one note.
        fits("player 7;question 1 0;question 12 0;question 11 0;", "heard 0 0 3;", 4, 2);
        fits("player 7;question 1 0;question 12 0;question 11 0;question 11 0;", "heard 0 0 3;", 4, 2);
    }

    private static void nextEdges() {
        EDGES.of(19, "4: NEXT (NONE: nothing FITS, no PLAYERS or no QUESTIONS)");
        fits(PLAIN, "cough 0 0;", 4, NONE);
        fits("player 7;", "", 4, NONE);
        fits("question 1 0;", "", 4, NONE);
        fits("", "", 4, NONE);
        fits("", "", 0, 80);
        fits(PLAIN, "heard 0 0 7;heard 0 0 7;", 4, 0);
    }

    private static void fitsMissing() {
        EDGES.of(19, "10 + k: the k-th. -2: a PLAYER, a QUESTION that was told of is not there, there is none such (of any), or for another what.");
        for (int what : new int[] {0, 1, 2, 3, 4, 10}) {
            fits(PLAIN, "heard 1 0 0;", what, -2);
            fits(PLAIN, "cough 3 0;", what, -2);
            fits(PLAIN, "heard 0 1 0;", what, -2);
            fits(PLAIN, "cough 0 7;", what, -2);
            fits(PLAIN, "heard 0 0 0;".repeat(7) + "heard 0 1 0;", what, -2);
            // Not there, though nothing fits before it.
            fits(PLAIN, "cough 0 0;heard 1 0 0;", what, -2);
            fits("reed 1 1;player 7;", "heard 0 0 0;", what, -2);
            fits("reed 1 1;question 1 0;", "heard 0 0 0;", what, -2);
        }
        fits("player 7;".repeat(4) + "question 1 0;".repeat(8), "heard 3 7 0;", 0, 10);
        ReedOracles x = Bench.duchyAnd(PLAIN, 2, "heard 0 0 0;");
        EDGES.missing("fits", -2, n -> x.fits(n[0], n[1], 0), 1, 1);
        EDGES.missing("the first", -2, n -> x.fits(n[0], n[1], 10), 1, 1);
        for (int what : new int[] {-1, -2, 5, 6, 7, 8, 9, 20, 21, 89, 90, 100, Integer.MIN_VALUE, Integer.MAX_VALUE}) {
            EDGES.due("fits, what " + what, x.fits(0, 0, what), -2);
        }
    }

    private static void left(int n, int k, int y, int p, long over, long under) {
        String call = "left(" + n + ", " + k + ", " + y + ", " + p + ", ";
        EDGES.due(call + "false)", new ReedOracles().left(n, k, y, p, false), over);
        EDGES.due(call + "true)", new ReedOracles().left(n, k, y, p, true), under);
    }

    private static void left() {
        EDGES.of(20, "LEFT of n REEDS, 0 .. 6, k, 0 .. 6, y nights, 0 .. 3, p, 0 .. 10: each cracks in each night by p of ten, by itself: how likely k or more are not CRACKED behind y nights, a fraction in least terms.");
        for (int n = 0; n <= 6; n++) {
            for (int k = 0; k <= 6; k++) {
                long sure = k <= n ? 1 : 0;
                left(n, k, 0, 10, sure, 1);
                left(n, k, 3, 0, sure, 1);
                left(n, k, 1, 10, k == 0 ? 1 : 0, 1);
                left(n, k, 3, 10, k == 0 ? 1 : 0, 1);
            }
            left(n, 0, 3, 7, 1, 1);
        }
        left(1, 1, 1, 5, 1, 2);
        left(1, 1, 2, 5, 1, 4);
        left(1, 1, 3, 5, 1, 8);
        left(1, 1, 1, 9, 1, 10);
        left(1, 1, 3, 9, 1, 1000);
        left(1, 1, 1, 1, 9, 10);
        left(2, 1, 1, 5, 3, 4);
        left(2, 2, 1, 5, 1, 4);
        left(2, 3, 1, 5, 0, 1);
        left(6, 6, 3, 9, 1, 1000000000000000000L);
        left(6, 6, 3, 5, 1, 262144);
        left(6, 1, 3, 5, 262144 - 117649, 262144);
        left(6, 6, 3, 1, 150094635296999121L, 1000000000000000000L);
        left(6, 1, 1, 9, 468559, 1000000);
    }

    private static void leftRefused() {
        EDGES.of(20, "LEFT of n, k, y, p, N, or (under) D. NONE: other numbers.");
        ReedOracles x = new ReedOracles();
        EDGES.missing("left", NONE, n -> x.left(n[0], n[1], n[2], n[3], false), 7, 7, 4, 11);
        EDGES.missing("left, under", NONE, n -> x.left(n[0], n[1], n[2], n[3], true), 7, 7, 4, 11);
        EDGES.due("the greatest of all are none other", x.left(6, 6, 3, 10, true), 1);
        EDGES.due("the least of all are none other", x.left(0, 0, 0, 0, false), 1);
    }

    private static void odds(String duchy, String log, int question, int answer, long over, long under) {
        ReedOracles x = Bench.duchyAnd(duchy, 2, log);
        String call = "odds of " + duchy + " " + log + ", " + question + ", " + answer;
        EDGES.due(call, x.odds(0, 0, 0, question, answer, false), over);
        EDGES.due(call + ", under", x.odds(0, 0, 0, question, answer, true), under);
    }

    private static void odds() {
        EDGES.of(34, "ODDS of a PLAYER, a QUESTION, an ANSWER: all that FIT being alike, how likely it ANSWERS so, if it is asked next, a fraction in least terms.");
        odds(PLAIN, "", 0, 0, 1, 2);
        odds(PLAIN, "", 0, 1, 1, 2);
        odds(PLAIN, "", 0, 2, 0, 1);
        odds(PLAIN + "means 3 wait;", "", 0, 2, 1, 8);
        // One alone fits: dry, key 7.
        odds(PLAIN, "heard 0 0 7;heard 0 0 7;", 0, 1, 1, 1);
        odds(PLAIN, "heard 0 0 7;heard 0 0 7;", 0, 0, 0, 1);
        // Behind the fact it is 1 less wet, 3 less in note; wet 0 stays: 9 of ten say no then, one says yes.
        odds(PLAIN, "heard 0 0 1;", 0, 0, 9, 10);
        odds(PLAIN, "heard 0 0 1;", 0, 1, 1, 10);
        // Of ten wets two cough by question 1: a cough is no answer.
        odds(DEEP, "", 1, 0, 2, 5);
        odds(DEEP, "", 1, 2, 0, 1);
        // Of those that do not cough now, wet 2 coughs next.
        odds(DEEP, "heard 0 1 0;", 1, 1, 7, 8);
        odds("player 1;question 15 0;", "", 0, 0, 0, 1);
    }

    private static void oddsRefused() {
        EDGES.of(34, "ODDS of an ANSWER, 0 .. 2, N, or (under) D. NONE: nothing FITS, another ANSWER, as -2 of fits(), or there is none such (of any).");
        odds(PLAIN, "cough 0 0;", 0, 0, NONE, NONE);
        odds(PLAIN, "cough 0 0;", 0, 2, NONE, NONE);
        odds(PLAIN, "heard 1 0 0;", 0, 0, NONE, NONE);
        odds(PLAIN, "heard 0 1 0;", 0, 0, NONE, NONE);
        odds("player 7;", "", 0, 0, NONE, NONE);
        odds("question 1 0;", "", 0, 0, NONE, NONE);
        ReedOracles x = Bench.duchyAnd("player 7;player 7;question 1 0;question 1 0;", 2, "");
        EDGES.missing("odds", NONE, n -> x.odds(n[0], n[1], n[2], n[3], n[4], false), 1, 1, 2, 2, 3);
        EDGES.missing("odds, under", NONE, n -> x.odds(n[0], n[1], n[2], n[3], n[4], true), 1, 1, 2, 2, 3);
        EDGES.due("the last of each", x.odds(0, 0, 1, 1, 1, true), 2);
    }
}
