/** Boundary cases of promises 7, 14 to 17, 22 to 24, 26, 29 to 32, 36 and 37: what is counted over notes. */
public final class EdgesNotesTest {
    private static final int NONE = ReedOracles.NONE;
    private static final Edges EDGES = new Edges(7, 14, 15, 16, 17, 22, 23, 24, 26, 29, 30, 31, 32, 36, 37);
    /** Breath 7 and depth 1 make 8: the note is 3 times the wet, and the key, less the cold. */
    private static final String PLAIN = "player 7;question 1 0;";
    /** By it every note means wait. */
    private static final String ALL_WAIT = "means 0 wait;means 1 wait;means 2 wait;means 3 wait;means 4 wait;means 5 wait;means 6 wait;means 7 wait;";
    /** By these a reed that is less than 1 wet coughs. */
    private static final String DEEP = "player 1;question 2 0;";

    public static void main(String[] args) {
        coughs();
        remainders();
        answers();
        noteDetails();
        alike();
        lows();
        told();
        weather();
        chant();
        ripe();
        deepest();
        edit();
        marched();
        chords();
        asTold();
        twins();
        tune();
        fairest();
        wets();
        clearest();
        EDGES.finish();
    }

    private static int note(String duchy) {
        return Bench.duchy(duchy).note(0, 0, 0, 0, false);
    }

    private static void coughs() {
        EDGES.of(7, "A REED that a PLAYER asks a QUESTION COUGHS, if DEPTH is more than WET and BREATH together");
        for (int wet = 0; wet < 10; wet++) {
            for (int breath = 1; breath < 10; breath++) {
                for (int depth = Math.max(1, wet + breath - 1); depth <= Math.min(15, wet + breath + 1); depth++) {
                    boolean coughs = depth == wet + breath + 1;
                    String duchy = "reed " + wet + " 0;player " + breath + ";question " + depth + " 0;";
                    EDGES.due("a cough of " + duchy, note(duchy) == NONE, coughs);
                }
            }
        }
        EDGES.due("the deepest of the driest", note("reed 0 0;player 1;question 15 0;"), NONE);
        EDGES.due("the deepest, 1 less wet than is needed", note("reed 8 0;player 6;question 15 0;"), NONE);
        EDGES.due("the deepest, as wet as is needed", note("reed 9 0;player 6;question 15 0;"), 0);
    }

    private static void remainders() {
        EDGES.of(7, "else its NOTE is 3 times WET, BREATH, KEY, 5 times the KIND, DEPTH, and 16, less COLD, all together: the remainder by 8.");
        for (int key = 0; key < 8; key++) {
            EDGES.due("key " + key, note("reed 0 " + key + ";" + PLAIN), key);
            EDGES.due("key " + key + ", cold 9", note("reed 0 " + key + ";cold 9;" + PLAIN), (key + 7) % 8);
        }
        int[] byWet = {0, 3, 6, 1, 4, 7, 2, 5, 0, 3};
        int[] byCold = {0, 7, 6, 5, 4, 3, 2, 1, 0, 7};
        for (int i = 0; i < 10; i++) {
            EDGES.due("wet " + i, note("reed " + i + " 0;" + PLAIN), byWet[i]);
            EDGES.due("cold " + i, note("reed 0 0;cold " + i + ";" + PLAIN), byCold[i]);
        }
        int[] byKind = {0, 5, 2, 7};
        for (int kind = 0; kind < 4; kind++) {
            EDGES.due("kind " + kind, note("reed 0 0;player 7;question 1 " + kind + ";"), byKind[kind]);
        }
        EDGES.due("the most of all: 89", note("reed 9 7;player 9;question 15 3;"), 1);
        EDGES.due("the least of all: 9", note("reed 0 0;player 1;question 1 0;cold 9;"), 1);
        EDGES.due("just 16", note("reed 0 6;player 1;question 1 0;cold 8;"), 0);
        EDGES.due("just 15", note("reed 0 6;player 1;question 1 0;cold 9;"), 7);
        EDGES.due("breath 8", note("reed 0 0;player 8;question 1 0;"), 1);
        EDGES.due("depth 7", note("reed 0 0;player 7;question 7 0;"), 6);
    }

    private static void answers() {
        EDGES.of(7, "It ANSWERS what that NOTE MEANS (a COUGH: nothing).");
        String[] words = {"no", "yes", "wait"};
        for (int n = 0; n < 8; n++) {
            for (int answer = 0; answer < 3; answer++) {
                ReedOracles x = Bench.duchy("reed 0 " + n + ";" + PLAIN + "means " + n + " " + words[answer] + ";");
                EDGES.due("note " + n + " means " + words[answer], x.note(0, 0, 0, 0, true), answer);
            }
            EDGES.due("note " + n + " at first", Bench.duchy("reed 0 " + n + ";" + PLAIN).note(0, 0, 0, 0, true), n % 2);
        }
        EDGES.due("a cough, whatever the book says", Bench.duchy("reed 0 0;" + DEEP + ALL_WAIT).note(0, 0, 0, 0, true), NONE);
        EDGES.due("a cough", Bench.duchy("reed 0 0;" + DEEP).note(0, 0, 0, 0, true), NONE);
    }

    private static void noteDetails() {
        EDGES.of(7, "The NOTE (NONE: it COUGHS), or (answer) what it ANSWERS (NONE: nothing).");
        ReedOracles x = Bench.duchy("reed 0 0;reed 1 4;" + DEEP);
        EDGES.due("a cough's note", x.note(0, 0, 0, 0, false), NONE);
        EDGES.due("a cough's answer", x.note(0, 0, 0, 0, true), NONE);
        // 3, 1, 4 and 2: 10.
        EDGES.due("the note", x.note(0, 1, 0, 0, false), 2);
        EDGES.due("the answer", x.note(0, 1, 0, 0, true), 0);
        EDGES.of(7, "-2: there is none such (of any).");
        EDGES.missing("note", -2, n -> x.note(n[0], n[1], n[2], n[3], false), 1, 2, 1, 1);
        EDGES.missing("answer", -2, n -> x.note(n[0], n[1], n[2], n[3], true), 1, 2, 1, 1);
        for (String duchy : new String[] {"", DEEP, "reed 0 0;player 1;", "reed 0 0;question 1 0;"}) {
            EDGES.due("note of " + duchy, note(duchy), -2);
        }
        ReedOracles full = Bench.duchy("reed 0 0;".repeat(6) + "player 1;".repeat(4) + "question 1 0;".repeat(8));
        EDGES.due("the last of all", full.note(0, 5, 3, 7, false), 2);
        EDGES.missing("note", -2, n -> full.note(n[0], n[1], n[2], n[3], false), 1, 6, 4, 8);
    }

    private static void alike() {
        EDGES.of(14, "ALIKE of two REEDS: of how many couples of a PLAYER and a QUESTION they ANSWER the same (both COUGH, too).");
        EDGES.due("yes and yes of other notes", Bench.duchy("reed 0 1;reed 0 3;" + PLAIN).alike(0, 0, 1), 1);
        EDGES.due("no and no of one note", Bench.duchy("reed 0 2;reed 0 2;" + PLAIN).alike(0, 0, 1), 1);
        EDGES.due("yes and no", Bench.duchy("reed 0 1;reed 0 2;" + PLAIN).alike(0, 0, 1), 0);
        EDGES.due("yes and wait", Bench.duchy("reed 0 1;reed 0 2;means 2 wait;" + PLAIN).alike(0, 0, 1), 0);
        EDGES.due("wait and wait", Bench.duchy("reed 0 1;reed 0 2;means 1 wait;means 2 wait;" + PLAIN).alike(0, 0, 1), 1);
        EDGES.due("both cough", Bench.duchy("reed 0 1;reed 0 2;" + DEEP).alike(0, 0, 1), 1);
        EDGES.due("one coughs", Bench.duchy("reed 0 1;reed 1 1;" + DEEP).alike(0, 0, 1), 0);
        EDGES.due("the other one coughs", Bench.duchy("reed 1 1;reed 0 1;" + DEEP).alike(0, 0, 1), 0);
        EDGES.due("no players", Bench.duchy("reed 0 1;reed 0 1;question 1 0;").alike(0, 0, 1), 0);
        EDGES.due("no questions", Bench.duchy("reed 0 1;reed 0 1;player 1;").alike(0, 0, 1), 0);
        ReedOracles full = Bench.duchy("reed 0 0;".repeat(6) + "player 1;".repeat(4) + "question 1 0;".repeat(8));
        EDGES.due("all couples", full.alike(0, 0, 5), 32);
        EDGES.due("all couples of one and the same", full.alike(0, 3, 3), 32);
        EDGES.of(14, "ALIKE. NONE: there is none such (of any).");
        EDGES.missing("alike", NONE, n -> full.alike(n[0], n[1], n[2]), 1, 6, 6);
        EDGES.due("no reeds", Bench.duchy(PLAIN).alike(0, 0, 0), NONE);
    }

    private static void lows() {
        EDGES.of(15, "LOWS: of how many three of a REED, a PLAYER, a QUESTION the NOTE is 0.");
        EDGES.due("note 0", Bench.duchy("reed 0 0;" + PLAIN).lows(0), 1);
        EDGES.due("note 0 of 24", Bench.duchy("reed 8 0;" + PLAIN).lows(0), 1);
        EDGES.due("note 0 of a wait", Bench.duchy("reed 0 0;" + PLAIN + ALL_WAIT).lows(0), 1);
        EDGES.due("note 1", Bench.duchy("reed 0 1;" + PLAIN).lows(0), 0);
        EDGES.due("note 7", Bench.duchy("reed 0 7;" + PLAIN).lows(0), 0);
        EDGES.due("note 0 by the cold", Bench.duchy("reed 0 7;cold 7;" + PLAIN).lows(0), 1);
        // 1 and 2 and 5 make 8, if it did not cough.
        EDGES.due("a cough", Bench.duchy("reed 0 5;" + DEEP).lows(0), 0);
        EDGES.due("no reeds", Bench.duchy(PLAIN).lows(0), 0);
        EDGES.due("no players", Bench.duchy("reed 0 0;question 1 0;").lows(0), 0);
        EDGES.due("no questions", Bench.duchy("reed 0 0;player 7;").lows(0), 0);
        EDGES.due("all", Bench.duchy("reed 0 0;".repeat(6) + "player 7;".repeat(4) + "question 1 0;".repeat(8)).lows(0), 192);
        EDGES.of(15, "LOWS. NONE: there is none such.");
        ReedOracles x = Bench.duchy("");
        EDGES.missing("lows", NONE, n -> x.lows(n[0]), 1);
        EDGES.due("of none", new ReedOracles().lows(0), NONE);
    }

    private static void told(String duchy, int... want) {
        for (int what = 0; what < 4; what++) {
            EDGES.due("told, " + what + ", of " + duchy, Bench.duchy(duchy).told(0, 0, what), want[what]);
        }
    }

    private static void told() {
        EDGES.of(16, "TOLD of a QUESTION: all REEDS and all PLAYERS: by how many couples of these it ANSWERS what (NO, YES, WAIT, nothing).");
        told("reed 0 0;reed 0 1;reed 0 2;reed 0 3;reed 0 4;means 4 wait;" + PLAIN, 2, 2, 1, 0);
        told("reed 0 0;reed 0 1;reed 1 0;" + DEEP, 1, 0, 0, 2);
        told(PLAIN, 0, 0, 0, 0);
        told("reed 0 0;question 1 0;", 0, 0, 0, 0);
        told("reed 0 1;".repeat(6) + "player 7;".repeat(4) + "question 1 0;question 15 0;", 0, 24, 0, 0);
        told("reed 0 1;".repeat(6) + "player 7;".repeat(4) + "question 15 0;question 1 0;", 0, 0, 0, 24);
        EDGES.of(16, "TOLD of a QUESTION, what 0: NO, 1: YES, 2: WAIT, 3: nothing. NONE: there is none such (of either), or for another what.");
        ReedOracles x = Bench.duchy("reed 0 1;player 7;question 1 0;question 1 0;");
        EDGES.missing("told", NONE, n -> x.told(n[0], n[1], n[2]), 1, 2, 4);
        EDGES.due("no questions", Bench.duchy("reed 0 0;player 1;").told(0, 0, 0), NONE);
    }

    private static int weather(String duchy, int answer) {
        return Bench.duchy(duchy).weather(0, 0, 0, 0, answer);
    }

    private static void weather() {
        EDGES.of(17, "WEATHER of a REED, a PLAYER, a QUESTION, an ANSWER: of how many COLDS, 0 .. 9, it ANSWERS so.");
        for (int key = 0; key < 8; key++) {
            // Colds 8 and 9 are as 0 and 1 are: the notes of the key and of the key less 1 come twice.
            for (int n = 0; n < 8; n++) {
                boolean twice = n == key || n == (key + 7) % 8;
                String duchy = "reed 0 " + key + ";means " + n + " wait;" + PLAIN;
                EDGES.due("weather of " + duchy, weather(duchy, 2), twice ? 2 : 1);
            }
        }
        EDGES.due("all ten", weather("reed 0 0;" + PLAIN + ALL_WAIT, 2), 10);
        EDGES.due("none of ten", weather("reed 0 0;" + PLAIN + ALL_WAIT, 1), 0);
        EDGES.due("yes", weather("reed 0 0;" + PLAIN, 1), 5);
        EDGES.due("the cold that was told does not count", weather("reed 0 0;cold 9;means 1 wait;" + PLAIN, 2), 1);
        EDGES.due("it coughs in all", weather("reed 0 0;" + DEEP + ALL_WAIT, 2), 0);
        EDGES.of(17, "WEATHER of an ANSWER, 0 .. 2. NONE: another ANSWER, or there is none such (of any).");
        ReedOracles x = Bench.duchy("reed 0 0;reed 0 0;" + PLAIN);
        EDGES.missing("weather", NONE, n -> x.weather(n[0], n[1], n[2], n[3], n[4]), 1, 2, 1, 1, 3);
        for (int answer = 0; answer < 3; answer++) {
            EDGES.due("answer " + answer, x.weather(0, 0, 0, 0, answer), answer < 2 ? 5 : 0);
        }
    }

    private static void chant() {
        EDGES.of(22, "CHANT of a REED, a PLAYER, a QUESTION, n, 0 .. 20: asked again and again, 1 less WET by each, 0 at least: the NOTE behind n times.");
        ReedOracles x = Bench.duchy("reed 9 1;reed 0 5;" + PLAIN);
        int[] want = {4, 1, 6, 3, 0, 5, 2, 7, 4, 1};
        for (int n = 0; n <= 20; n++) {
            EDGES.due("behind " + n, x.chant(0, 0, 0, 0, n), want[Math.min(n, 9)]);
            EDGES.due("a dry one behind " + n, x.chant(0, 1, 0, 0, n), 5);
        }
        EDGES.of(22, "CHANT (NONE: it COUGHS).");
        ReedOracles deep = Bench.duchy("reed 2 0;" + DEEP);
        // 6, 1 and 2; 3, 1 and 2; dry it coughs.
        int[] notes = {1, 6, NONE};
        for (int n = 0; n <= 20; n++) {
            EDGES.due("behind " + n, deep.chant(0, 0, 0, 0, n), notes[Math.min(n, 2)]);
        }
        EDGES.of(22, "-2: another n, or there is none such (of any).");
        EDGES.missing("chant", -2, n -> x.chant(n[0], n[1], n[2], n[3], n[4]), 1, 2, 1, 1, 21);
    }

    private static int ripe(String duchy, int answer) {
        return Bench.duchy(duchy).ripe(0, 0, 0, 0, answer);
    }

    private static void ripe() {
        EDGES.of(23, "RIPE of a REED, a PLAYER, a QUESTION, an ANSWER: behind how few nights (WET 1 less by each), 0 .. 9, it ANSWERS so.");
        // From 9 on: 3, 0, 5, 2, 7, 4, 1, 6, and 3, 0 again.
        int[] behind = {1, 6, 3, 0, 5, 2, 7, 4};
        for (int n = 0; n < 8; n++) {
            EDGES.due("note " + n, ripe("reed 9 0;means " + n + " wait;" + PLAIN, 2), behind[n]);
        }
        EDGES.due("from 7 on 7 nights", ripe("reed 7 0;means 0 wait;" + PLAIN, 2), 7);
        EDGES.due("from 8 on none", ripe("reed 8 0;means 0 wait;" + PLAIN, 2), 0);
        EDGES.due("from 1 on 1 night", ripe("reed 1 0;means 0 wait;" + PLAIN, 2), 1);
        EDGES.due("a dry one stays", ripe("reed 0 0;means 5 wait;" + PLAIN, 2), NONE);
        EDGES.due("at once", ripe("reed 0 0;" + PLAIN, 0), 0);
        // 6, 3, 3 and 2: 14 less 8; 11 less 8: 3; then it coughs, which is no answer.
        EDGES.due("before it coughs", ripe("reed 2 3;" + DEEP, 1), 1);
        EDGES.due("it coughs before", ripe("reed 1 0;" + DEEP, 1), NONE);
        EDGES.of(23, "RIPE of an ANSWER, 0 .. 2. NONE: not by 9, another ANSWER, or there is none such (of any).");
        EDGES.due("not by 9", ripe("reed 9 0;" + PLAIN, 2), NONE);
        EDGES.due("it coughs", ripe("reed 0 0;" + DEEP, 0), NONE);
        ReedOracles x = Bench.duchy("reed 0 0;reed 0 0;" + PLAIN);
        EDGES.missing("ripe", NONE, n -> x.ripe(n[0], n[1], n[2], n[3], n[4]), 1, 2, 1, 1, 3);
    }

    private static int deepest(String duchy) {
        return Bench.duchy(duchy).deepest(0, 0, 0);
    }

    private static void deepest() {
        EDGES.of(24, "DEEPEST of a REED, a PLAYER: of QUESTIONS by which it does not COUGH the deepest, of several the least.");
        EDGES.due("as deep as it can", deepest("reed 1 0;player 4;question 4 0;question 5 0;question 6 0;"), 1);
        EDGES.due("the least of several", deepest("reed 1 0;player 4;question 4 0;question 5 0;question 5 3;"), 1);
        EDGES.due("the first", deepest("reed 1 0;player 4;question 5 0;question 5 0;question 4 0;"), 0);
        EDGES.due("the last of eight", deepest("reed 1 0;player 4;" + "question 4 0;".repeat(7) + "question 5 0;"), 7);
        EDGES.due("depth 15", deepest("reed 9 0;player 6;question 14 0;question 15 0;"), 1);
        EDGES.due("depth 1", deepest("reed 0 0;player 1;question 2 0;question 1 0;"), 1);
        EDGES.of(24, "DEEPEST. NONE: none, or there is none such (of any).");
        EDGES.due("it coughs by all", deepest("reed 0 0;player 1;question 2 0;question 15 0;"), NONE);
        EDGES.due("no questions", deepest("reed 0 0;player 1;"), NONE);
        ReedOracles x = Bench.duchy("reed 0 0;reed 0 0;" + PLAIN);
        EDGES.missing("deepest", NONE, n -> x.deepest(n[0], n[1], n[2]), 1, 2, 1);
    }

    private static int edit(String duchy, int answer) {
        return Bench.duchy(duchy).edit(0, 0, 0, answer);
    }

    private static void edit() {
        EDGES.of(26, "EDIT of a REED, a PLAYER, an ANSWER: of how few NOTES the BOOK must be changed, so that it ANSWERS so to all QUESTIONS by which it does not COUGH.");
        StringBuilder eight = new StringBuilder("reed 0 0;player 8;");
        for (int depth = 1; depth <= 8; depth++) {
            eight.append("question ").append(depth).append(" 0;");
        }
        EDGES.due("all eight notes", edit(eight.toString(), 2), 8);
        EDGES.due("half of them", edit(eight.toString(), 1), 4);
        EDGES.due("the other half", edit(eight.toString(), 0), 4);
        EDGES.due("none of them", edit(eight + ALL_WAIT, 2), 0);
        EDGES.due("one note, asked eight times", edit("reed 0 1;player 7;" + "question 1 0;".repeat(8), 0), 1);
        EDGES.due("two notes, one as it is", edit("reed 0 0;player 7;question 1 0;question 2 0;", 0), 1);
        EDGES.due("it coughs by all", edit("reed 0 0;" + DEEP, 2), 0);
        EDGES.due("it coughs by one", edit("reed 0 0;player 1;question 2 0;question 1 0;", 1), 1);
        EDGES.due("no questions", edit("reed 0 0;player 1;", 2), 0);
        EDGES.of(26, "EDIT of an ANSWER, 0 .. 2. NONE: another ANSWER, or there is none such (of any).");
        ReedOracles x = Bench.duchy("reed 0 0;reed 0 0;" + PLAIN);
        EDGES.missing("edit", NONE, n -> x.edit(n[0], n[1], n[2], n[3]), 1, 2, 1, 3);
    }

    private static int marched(String duchy) {
        return Bench.duchy(duchy).marched(0, 0);
    }

    private static void marched() {
        EDGES.of(29, "MARCHED of a QUESTION: by how many two REEDS and two PLAYERS (the lesser REED by either of them) a duet would be a MARCH.");
        String two = "player 7;player 7;question 1 0;";
        EDGES.due("two of each, either way", marched("reed 0 1;reed 0 3;" + two), 2);
        EDGES.due("yes and no", marched("reed 0 1;reed 0 2;" + two), 0);
        EDGES.due("two waits", marched("reed 0 1;reed 0 2;means 1 wait;means 2 wait;" + two), 2);
        // Reed 0 has 1 by player 0, 2 by player 1; reed 1 has 4 and 4 is wait, 5: yes by 0 and by 1 alone.
        EDGES.due("one way alone", marched("reed 0 1;reed 0 4;means 4 wait;player 7;player 8;question 1 0;"), 1);
        EDGES.due("one way alone, the other one", marched("reed 0 4;reed 0 1;means 4 wait;player 7;player 8;question 1 0;"), 1);
        EDGES.due("both cough", marched("reed 0 1;reed 0 1;player 1;player 1;question 2 0;"), 0);
        EDGES.due("one coughs", marched("reed 0 1;reed 1 1;player 1;player 1;question 2 0;"), 0);
        EDGES.due("one player", marched("reed 0 1;reed 0 1;" + PLAIN), 0);
        EDGES.due("one reed", marched("reed 0 1;" + two), 0);
        EDGES.due("no players", marched("reed 0 1;reed 0 1;question 1 0;"), 0);
        EDGES.due("no reeds", marched(two), 0);
        EDGES.due("all", marched("reed 0 0;".repeat(6) + "player 7;".repeat(4) + "question 1 0;"), 180);
        EDGES.of(29, "MARCHED. NONE: there is none such (of either).");
        ReedOracles x = Bench.duchy("reed 0 1;player 7;question 1 0;question 1 0;");
        EDGES.missing("marched", NONE, n -> x.marched(n[0], n[1]), 1, 2);
        EDGES.due("no questions", marched("reed 0 1;reed 0 1;player 1;player 1;"), NONE);
    }

    private static int chords(String keys) {
        StringBuilder duchy = new StringBuilder(PLAIN);
        for (int i = 0; i < keys.length(); i++) {
            duchy.append("reed 0 ").append(keys.charAt(i)).append(";");
        }
        return Bench.duchy(duchy.toString()).chords(0, 0, 0);
    }

    private static void chords() {
        EDGES.of(30, "CHORDS of a PLAYER, a QUESTION: how many three REEDS have NOTES of which one is 2 and one is 4 more than another (behind 7 comes 0).");
        for (int low = 0; low < 8; low++) {
            for (int second = 0; second < 8; second++) {
                for (int third = 0; third < 8; third++) {
                    boolean chord = false;
                    for (int root = 0; root < 8; root++) {
                        int three = 1 << low | 1 << second | 1 << third;
                        chord |= three == (1 << root | 1 << (root + 2) % 8 | 1 << (root + 4) % 8);
                    }
                    String keys = "" + low + second + third;
                    EDGES.due("chords of " + keys, chords(keys), chord ? 1 : 0);
                }
            }
        }
        EDGES.due("two reeds", chords("02"), 0);
        EDGES.due("no reeds", chords(""), 0);
        EDGES.due("six reeds", chords("002244"), 8);
        EDGES.due("each of four notes", chords("0246"), 4);
        EDGES.due("six reeds of four notes", chords("024602"), 12);
        // The dry one coughs; with it 3 would be 2 more than 1 and 2 less than 5.
        ReedOracles cough = Bench.duchy("reed 1 3;reed 0 0;reed 1 7;player 1;question 2 0;");
        EDGES.due("a cough is no note", cough.chords(0, 0, 0), 0);
        EDGES.of(30, "CHORDS. NONE: there is none such (of any).");
        ReedOracles x = Bench.duchy("reed 0 0;reed 0 2;reed 0 4;player 7;player 7;question 1 0;");
        EDGES.due("there", x.chords(0, 1, 0), 1);
        EDGES.due("there, once more", x.chords(0, 1, 0), 1);
        EDGES.missing("chords", NONE, n -> x.chords(n[0], n[1], n[2]), 1, 2, 1);
    }

    /** A duchy told anew, smaller, and asked of by turns with another one: nothing of the one is left for the other. */
    private static void asTold() {
        EDGES.of(31, "(Of a DUCHY as told.)");
        ReedOracles x = Bench.duchy("reed 0 0;".repeat(6) + "player 7;".repeat(4) + "question 1 0;".repeat(8) + "means 0 wait;");
        Bench.tell(x, 0, NONE, "reed 0 1;reed 0 3;reed 0 5;player 7;question 1 0;");
        for (int i = 0; i < 2; i++) {
            EDGES.due("lows of the great one", x.lows(0), 192);
            EDGES.due("lows of the small one", x.lows(1), 0);
            EDGES.due("chords of the great one", x.chords(0, 3, 7), 0);
            EDGES.due("chords of the small one", x.chords(1, 0, 0), 1);
            EDGES.due("fairest of the great one", x.fairest(0, 2, true), 192);
            EDGES.due("fairest of the small one", x.fairest(1, 0, true), 3);
            EDGES.due("twins of the great one", x.twins(0, 0), 15);
            EDGES.due("twins of the small one", x.twins(1, 0), 0);
            EDGES.due("told of the great one", x.told(0, 7, 2), 24);
            EDGES.due("told of the small one", x.told(1, 0, 1), 3);
            EDGES.due("clearest of the great one", x.clearest(0, 7, true), 4);
            EDGES.due("clearest of the small one", x.clearest(1, 0, true), 1);
        }
        Bench.tell(x, 0, 0, "reed 0 0;player 7;question 1 0;");
        EDGES.due("lows of what is told anew", x.lows(0), 1);
        EDGES.due("its answer, by the book at first", x.note(0, 0, 0, 0, true), 0);
        EDGES.due("its twins", x.twins(0, 0), 0);
        EDGES.due("its told", x.told(0, 0, 0), 1);
        EDGES.due("its fairest", x.fairest(0, 2, true), 0);
    }

    private static int twins(String duchy, int what) {
        return Bench.duchy(duchy).twins(0, what);
    }

    private static void twins() {
        EDGES.of(31, "TWINS: how many couples of REEDS have the same NOTE, or COUGH, by all PLAYERS to all QUESTIONS.");
        EDGES.due("one note", twins("reed 0 3;reed 1 0;" + PLAIN, 0), 1);
        EDGES.due("other notes of one answer", twins("reed 0 3;reed 0 1;" + PLAIN, 0), 0);
        EDGES.due("both cough", twins("reed 0 3;reed 0 1;" + DEEP, 0), 1);
        EDGES.due("one coughs", twins("reed 0 3;reed 1 0;" + DEEP, 0), 0);
        EDGES.due("one coughs by the last question alone", twins("reed 0 3;reed 1 0;player 7;question 1 0;question 8 0;", 0), 0);
        EDGES.due("one coughs by the last player alone", twins("reed 0 3;reed 1 0;player 7;player 6;question 7 0;", 0), 0);
        EDGES.due("no players", twins("reed 0 3;reed 1 7;question 1 0;", 0), 1);
        EDGES.due("no questions", twins("reed 0 3;reed 1 7;player 1;", 0), 1);
        EDGES.due("one reed", twins("reed 0 3;" + PLAIN, 0), 0);
        EDGES.due("no reeds", twins(PLAIN, 0), 0);
        EDGES.due("six reeds", twins("reed 0 3;".repeat(6) + PLAIN, 0), 15);
        EDGES.due("of two kinds", twins("reed 0 3;reed 0 4;".repeat(3) + PLAIN, 0), 6);
    }

    private static void tuned(String keys, int cuts, int key) {
        StringBuilder duchy = new StringBuilder();
        for (int i = 0; i < keys.length(); i++) {
            duchy.append("reed 0 ").append(keys.charAt(i)).append(";");
        }
        EDGES.due("cuts of " + keys, twins(duchy.toString(), 1), cuts);
        EDGES.due("key of " + keys, twins(duchy.toString(), 2), key);
    }

    private static void tune() {
        EDGES.of(31, "TUNE: the fewest cuts in all behind which all REEDS have one KEY; the KEY, of several the least.");
        tuned("0", 0, 0);
        tuned("7", 0, 7);
        tuned("777777", 0, 7);
        tuned("01", 1, 1);
        tuned("10", 1, 1);
        tuned("70", 1, 0);
        tuned("67", 1, 7);
        tuned("04", 4, 0);
        tuned("73", 4, 3);
        tuned("026", 6, 2);
        tuned("771", 4, 1);
        tuned("0246", 12, 0);
        tuned("700000", 1, 0);
        tuned("000007", 1, 0);
        tuned("111110", 1, 1);
        tuned("", 0, 0);
        EDGES.of(31, "What 0: TWINS, 1: TUNE, how many cuts, 2: the KEY. NONE: there is none such, or for another what.");
        ReedOracles x = Bench.duchy("reed 0 0;" + PLAIN);
        EDGES.missing("twins", NONE, n -> x.twins(n[0], n[1]), 1, 3);
    }

    private static void fairest(String duchy, int answer, int cold, int many) {
        EDGES.due("fairest of " + duchy, Bench.duchy(duchy).fairest(0, answer, false), cold);
        EDGES.due("how many of " + duchy, Bench.duchy(duchy).fairest(0, answer, true), many);
    }

    private static void fairest() {
        EDGES.of(32, "FAIREST of an ANSWER: the COLD, 0 .. 9, by which of most three (a REED, a PLAYER, a QUESTION) it is the ANSWER, of several the least; of how many.");
        for (int key = 0; key < 8; key++) {
            // By cold 0 .. 7 the key comes down to note 0, once.
            fairest("reed 0 " + key + ";means 0 wait;" + PLAIN, 2, key, 1);
        }
        fairest("reed 0 0;cold 5;" + PLAIN, 0, 0, 1);
        fairest("reed 0 0;cold 5;" + PLAIN, 1, 1, 1);
        fairest("reed 0 0;reed 0 1;" + PLAIN, 1, 0, 1);
        fairest("reed 0 1;reed 0 3;reed 0 2;" + PLAIN, 0, 1, 2);
        fairest("reed 0 0;" + PLAIN, 2, 0, 0);
        fairest("reed 0 0;" + PLAIN + ALL_WAIT, 2, 0, 1);
        fairest("reed 0 0;" + DEEP, 0, 0, 0);
        fairest(PLAIN, 0, 0, 0);
        fairest("reed 0 0;player 1;", 1, 0, 0);
        fairest("", 2, 0, 0);
        fairest("reed 0 1;".repeat(6) + "player 7;".repeat(4) + "question 1 0;".repeat(8), 0, 1, 192);
        EDGES.of(32, "FAIREST of an ANSWER, 0 .. 2: the COLD, or (many) of how many. NONE: another ANSWER, or there is none such.");
        ReedOracles x = Bench.duchy("reed 0 0;" + PLAIN);
        EDGES.missing("fairest", NONE, n -> x.fairest(n[0], n[1], false), 1, 3);
        EDGES.missing("how many", NONE, n -> x.fairest(n[0], n[1], true), 1, 3);
    }

    private static int wets(String duchy) {
        return Bench.duchy(duchy).wets(0, 0);
    }

    private static void wets() {
        EDGES.of(36, "WETS of a REED: how often it is to be wetted (3 more each time, 9 at most), so that no PLAYER makes it COUGH by any QUESTION, 0 .. 3 (never: none).");
        int[] times = {0, 0, 1, 1, 1, 2, 2, 2, 3, 3, 3, NONE, NONE, NONE, NONE, NONE};
        for (int depth = 1; depth <= 15; depth++) {
            // Breath 1: wet is to be the depth less 1.
            EDGES.due("depth " + depth, wets("reed 0 0;player 1;question " + depth + " 0;"), times[depth]);
        }
        EDGES.due("wet 7 becomes 9 alone", wets("reed 7 0;player 1;question 10 0;"), 1);
        EDGES.due("wet 7 becomes no more than 9", wets("reed 7 0;player 1;question 11 0;"), NONE);
        EDGES.due("wet 9, enough", wets("reed 9 0;player 1;question 10 0;"), 0);
        EDGES.due("wet 9, not enough", wets("reed 9 0;player 1;question 11 0;"), NONE);
        EDGES.due("wet 8 becomes 9", wets("reed 8 0;player 6;question 15 0;"), 1);
        EDGES.due("the weakest player counts", wets("reed 0 0;player 9;player 1;player 9;question 5 0;"), 2);
        EDGES.due("the deepest question counts", wets("reed 0 0;player 1;question 1 0;question 5 0;question 1 0;"), 2);
        EDGES.due("all there may be", wets("reed 0 0;player 9;player 9;player 9;player 8;" + "question 8 0;".repeat(7) + "question 9 0;"), 1);
        EDGES.due("all there may be, heard", wets("reed 0 0;" + "player 9;".repeat(4) + "question 9 0;".repeat(8)), 0);
        EDGES.due("no players", wets("reed 0 0;question 15 0;"), 0);
        EDGES.due("no questions", wets("reed 0 0;player 1;"), 0);
        EDGES.of(36, "WETS. NONE: never, or there is none such (of either).");
        EDGES.due("never", wets("reed 0 0;player 1;question 15 0;"), NONE);
        ReedOracles anew = Bench.duchy("reed 0 0;player 7;player 1;question 1 0;question 15 0;");
        EDGES.due("never", anew.wets(0, 0), NONE);
        Bench.tell(anew, 0, 0, "reed 0 0;player 7;question 1 0;");
        EDGES.due("told anew, without the deep one and the weak one", anew.wets(0, 0), 0);
        EDGES.due("no reeds", wets(PLAIN), NONE);
        ReedOracles x = Bench.duchy("reed 0 0;reed 0 0;" + PLAIN);
        EDGES.missing("wets", NONE, n -> x.wets(n[0], n[1]), 1, 2);
    }

    private static void clearest(String duchy, int reed, int many) {
        EDGES.due("clearest of " + duchy, Bench.duchy(duchy).clearest(0, 0, false), reed);
        EDGES.due("how many of " + duchy, Bench.duchy(duchy).clearest(0, 0, true), many);
    }

    private static void clearest() {
        EDGES.of(37, "CLEAREST of a QUESTION: the REED by which most PLAYERS have one and the same ANSWER (a COUGH being none), of several the least; how many.");
        // By breaths 7, 8 and 9 notes are the key, 1 and 2 more.
        String three = "player 7;player 8;player 9;question 1 0;";
        clearest("reed 0 1;" + three, 0, 2);
        clearest("reed 0 1;reed 0 2;" + three, 0, 2);
        clearest("reed 0 1;reed 0 2;means 3 no;" + three, 1, 3);
        clearest("reed 0 1;reed 0 2;means 2 wait;means 3 wait;means 4 wait;" + three, 1, 3);
        clearest("reed 0 1;means 2 wait;means 3 no;" + three, 0, 1);
        // Breath 1 coughs by the dry one.
        clearest("reed 0 0;reed 1 0;player 1;player 1;player 2;question 2 0;", 1, 2);
        clearest("reed 0 0;reed 0 0;player 1;player 1;question 2 0;", 0, 0);
        clearest("reed 0 0;reed 0 0;question 1 0;", 0, 0);
        clearest("reed 0 0;".repeat(6) + "player 7;".repeat(4) + "question 1 0;".repeat(8), 0, 4);
        clearest("reed 0 0;reed 0 1;player 7;player 7;player 8;player 7;question 1 0;", 0, 3);
        clearest("reed 0 0;".repeat(5) + "reed 0 1;means 1 wait;means 2 wait;means 3 wait;" + three, 5, 3);
        EDGES.of(37, "CLEAREST: the REED (NONE: no REEDS), or (many) how many.");
        clearest(PLAIN, NONE, 0);
        clearest("question 1 0;", NONE, 0);
        EDGES.of(37, "-2: there is none such (of either).");
        ReedOracles x = Bench.duchy("reed 0 0;player 7;question 1 0;question 1 0;");
        EDGES.missing("clearest", -2, n -> x.clearest(n[0], n[1], false), 1, 2);
        EDGES.missing("how many", -2, n -> x.clearest(n[0], n[1], true), 1, 2);
        EDGES.due("no questions", Bench.duchy("reed 0 0;player 1;").clearest(0, 0, false), -2);
    }
}
