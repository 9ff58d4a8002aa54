/** Boundary cases of promises 11 to 13, 25, 27, 28 and 35: what is chosen over many ways. */
public final class EdgesPlansTest {
    private static final int NONE = ReedOracles.NONE;
    private static final Edges EDGES = new Edges(11, 12, 13, 25, 27, 28, 35);
    /** Breath 7 and depth 1 make 8: the note is 3 times the wet, and the key, less the cold. */
    private static final String PLAIN = "player 7;question 1 0;";
    /** By it every note means no. */
    private static final String ALL_NO = "means 1 no;means 3 no;means 5 no;means 7 no;";
    /** By these a reed that is less than 1 wet coughs. */
    private static final String DEEP = "player 1;question 2 0;";

    public static void main(String[] args) {
        readyRows();
        asTold();
        twoDuchies();
        readyEdges();
        readyNever();
        favourRows();
        favourEdges();
        dareByTurns();
        dareLost();
        dareAll();
        dareFirst();
        program();
        choir();
        peace();
        has();
        owns();
        EDGES.finish();
    }

    private static void ready(String duchy, int answer, int... acts) {
        ReedOracles x = Bench.duchy(duchy);
        EDGES.due("how many acts of " + duchy, x.ready(0, 0, 0, 0, answer, NONE), acts.length);
        for (int k = 0; k < acts.length; k++) {
            EDGES.due("act " + k + " of " + duchy, x.ready(0, 0, 0, 0, answer, k), acts[k]);
        }
        EDGES.due("no act behind them of " + duchy, x.ready(0, 0, 0, 0, answer, acts.length), NONE);
    }

    /** Acts up to the one note that means wait. */
    private static void readyFor(String duchy, int note, int... acts) {
        ready(duchy + ALL_NO + "means " + note + " wait;" + PLAIN, 2, acts);
    }

    private static void readyRows() {
        EDGES.of(11, "the first row of them, by numbers (0 wet, 1 cut, 2 dry, 3 warm, 4 cool).");
        readyFor("reed 0 0;", 0);
        // 9 more by a wet and 1 more by a cut are alike: the wet is first.
        readyFor("reed 0 0;", 1, 0);
        readyFor("reed 0 0;cold 5;", 4, 0);
        readyFor("reed 0 0;", 2, 0, 0);
        readyFor("reed 0 0;", 3, 0, 0, 0);
        // From 9 on a wet does nothing.
        readyFor("reed 9 0;", 4, 1);
        readyFor("reed 9 0;", 5, 1, 1);
        readyFor("reed 9 0;", 0, 2);
        readyFor("reed 9 0;", 1, 1, 2);
        readyFor("reed 9 0;", 2, 4);
        // 3 less and 1 less: dry before cool, whichever is done first.
        readyFor("reed 9 0;", 7, 2, 4);
        readyFor("reed 9 0;cold 9;", 3, 1);
        readyFor("reed 4 0;", 3, 4);
        readyFor("reed 4 0;", 1, 2);
    }

    private static void asTold() {
        EDGES.of(11, "(Of a DUCHY as told.) READY of a REED, a PLAYER, a QUESTION, an ANSWER: the fewest acts behind which it ANSWERS so");
        ReedOracles x = Bench.duchyAnd("reed 7 0;" + ALL_NO + "means 3 wait;" + PLAIN, 1, "cut 0;cold 9;night;ask 0 0 0;");
        for (int i = 0; i < 2; i++) {
            EDGES.due("one act", x.ready(0, 0, 0, 0, 2, NONE), 1);
            EDGES.due("a wet", x.ready(0, 0, 0, 0, 2, 0), 0);
            EDGES.due("the wet stays as told", x.duchy(0, 10), 7);
            EDGES.due("a year has passed", x.state(0, 0, 4, 20), 1);
        }
    }

    /** A great duchy and a small one in one object, asked of by turns: no answer of the one is left for the other. */
    private static void twoDuchies() {
        EDGES.of(12, "(Of a DUCHY as told.)");
        ReedOracles x = Bench.duchy("reed 0 1;".repeat(5) + "reed 9 2;player 7;player 8;" + "question 1 0;".repeat(8));
        Bench.tell(x, 0, NONE, "reed 0 2;reed 0 1;player 7;question 1 0;question 1 0;");
        for (int i = 0; i < 2; i++) {
            EDGES.due("favour of the great one", x.favour(0, 0, 1, NONE), 6);
            EDGES.due("favour of the small one", x.favour(1, 0, 1, NONE), 1);
            EDGES.due("its first reed", x.favour(1, 0, 1, 0), 0);
            EDGES.due("its second reed", x.favour(1, 0, 1, 1), 1);
            EDGES.due("program of the great one", x.program(0, 0, 0, NONE), 8);
            EDGES.due("dare of the small one", x.dare(1, 0, 0, false), 2);
            EDGES.due("program of the great one", x.program(0, 0, 0, 7), 7);
            EDGES.due("program of the small one", x.program(1, 0, 0, NONE), 2);
            EDGES.due("dare of the great one", x.dare(0, 0, 0, false), 2);
            EDGES.due("program of the small one", x.program(1, 1, 0, 1), 1);
            EDGES.due("dare of the small one", x.dare(1, 0, 0, false), 2);
            EDGES.due("choir of the great one", x.choir(0, 0, true), 1);
            EDGES.due("peace of the great one", x.peace(0, 0, true), 63);
            EDGES.due("choir of the small one", x.choir(1, 0, true), 1);
            EDGES.due("peace of the small one", x.peace(1, 0, true), 1);
            EDGES.due("choir of the great one by another", x.choir(0, 1, true), 1);
            EDGES.due("peace of the great one by another", x.peace(0, 1, true), 63);
            EDGES.due("who has what in the great one", x.owns(0, 0, false), 1);
            EDGES.due("who has what in the small one", x.owns(1, 0, false), 0);
        }
    }

    private static void readyEdges() {
        EDGES.of(11, "wet, cut (as DEEDS), dry (WET 1 less, 0 at least), warm (COLD 1 less, 0 at least), cool (COLD 1 more, 9 at most)");
        // Wet 7 becomes 9, not 10: 27 makes note 3, 30 would make 6.
        readyFor("reed 7 0;", 3, 0);
        readyFor("reed 8 0;", 3, 0);
        readyFor("reed 6 0;", 3, 0);
        // A dry reed gets no dryer: no note is 3 less. Wet, dry: 6; one less: 5.
        readyFor("reed 0 0;", 5, 0, 2, 4);
        readyFor("reed 1 0;", 0, 2);
        readyFor("reed 1 0;", 5, 0, 0);
        // Cold 9 gets no colder: 1 - 9 is note 0; two wets and a dry, 16 - 9, come before wet, dry, cut.
        readyFor("reed 0 1;cold 9;", 7, 0, 0, 2);
        readyFor("reed 0 1;cold 8;", 0, 4);
        readyFor("reed 9 0;cold 9;", 1, 1, 1, 2);
        readyFor("reed 9 0;cold 9;", 4, 1, 1);
        readyFor("reed 9 0;cold 3;", 7, 4);
        // Warm is 1 less cold, not 2: two cuts come before two of it.
        readyFor("reed 9 0;cold 5;", 0, 1, 1);
        // A cut behind key 7: 27 and 7 make note 2, 27 alone note 3.
        readyFor("reed 9 7;", 3, 1);
        // Wet until it does not cough: 3 wet by breath 1 are enough for depth 4, 6 wet for depth 5.
        ready("reed 0 0;player 1;question 4 0;", 0, 0);
        ready("reed 0 0;player 1;question 5 0;", 0, 0, 0);
        ready("reed 0 0;player 1;question 10 0;", 0, 0, 0, 0);
    }

    private static void readyNever() {
        EDGES.of(11, "READY of an ANSWER, 0 .. 2: how many acts (k NONE), or the k-th. NONE: never, not so many, another ANSWER, or there is none such (of any).");
        ReedOracles never = Bench.duchy("reed 0 0;player 1;question 11 0;");
        for (int answer = 0; answer < 3; answer++) {
            EDGES.due("it coughs even at 9", never.ready(0, 0, 0, 0, answer, NONE), NONE);
            EDGES.due("no act then", never.ready(0, 0, 0, 0, answer, 0), NONE);
        }
        ReedOracles just = Bench.duchy("reed 0 0;player 1;question 10 0;");
        EDGES.due("at 9 it does not", just.ready(0, 0, 0, 0, 0, NONE), 3);
        ReedOracles x = Bench.duchy("reed 0 1;reed 0 1;" + PLAIN);
        EDGES.due("the book does not have it", x.ready(0, 0, 0, 0, 2, NONE), NONE);
        EDGES.due("the book does not have it", x.ready(0, 0, 0, 0, 2, 0), NONE);
        EDGES.due("it does so already", x.ready(0, 0, 0, 0, 1, NONE), 0);
        EDGES.due("no first act then", x.ready(0, 0, 0, 0, 1, 0), NONE);
        EDGES.due("one act", x.ready(0, 0, 0, 0, 0, NONE), 1);
        EDGES.due("it", x.ready(0, 0, 0, 0, 0, 0), 0);
        for (int k : new int[] {1, 2, 100, -2, -3, Integer.MIN_VALUE, Integer.MAX_VALUE}) {
            EDGES.due("ready, k " + k, x.ready(0, 0, 0, 0, 0, k), NONE);
        }
        EDGES.missing("ready", NONE, n -> x.ready(n[0], n[1], n[2], n[3], n[4], NONE), 1, 2, 1, 1, 3);
        EDGES.missing("its act", NONE, n -> x.ready(n[0], n[1], n[2], n[3], n[4], 0), 1, 2, 1, 1, 3);
    }

    private static void favour(String duchy, int answer, int many, int... reeds) {
        ReedOracles x = Bench.duchy(duchy);
        EDGES.due("how many of " + duchy, x.favour(0, 0, answer, NONE), many);
        for (int k = 0; k < reeds.length; k++) {
            EDGES.due("question " + k + " of " + duchy, x.favour(0, 0, answer, k), reeds[k]);
        }
        EDGES.due("no question behind them of " + duchy, x.favour(0, 0, answer, reeds.length), NONE);
    }

    private static void favourRows() {
        EDGES.of(12, "each QUESTION is asked of one REED, or none, no REED of two: so that most ANSWER so: how many; the first row of REEDS by QUESTIONS, by numbers (6: none).");
        // Notes are the key and the depth less 1.
        favour("reed 0 1;" + PLAIN, 1, 1, 0);
        favour("reed 0 1;player 7;question 1 0;question 1 0;", 1, 1, 0, 6);
        favour("reed 0 1;player 7;question 2 0;question 1 0;question 1 0;", 1, 1, 6, 0, 6);
        favour("reed 0 1;reed 0 1;" + PLAIN, 1, 1, 0);
        favour("reed 0 2;reed 0 1;" + PLAIN, 1, 1, 1);
        // A reed that does not answer so is asked rather than none: it comes first by numbers.
        favour("reed 0 2;reed 0 1;player 7;question 1 0;question 1 0;", 1, 1, 0, 1);
        favour("reed 0 2;" + PLAIN, 1, 0, 0);
        favour("reed 0 0;player 1;question 2 0;question 2 0;", 1, 0, 0, 6);
        favour("reed 0 1;".repeat(6) + "player 7;" + "question 1 0;".repeat(8), 1, 6, 0, 1, 2, 3, 4, 5, 6, 6);
        favour("reed 0 1;".repeat(6) + "player 7;" + "question 1 0;".repeat(6), 1, 6, 0, 1, 2, 3, 4, 5);
        // Reed 0 alone is wet enough for the deep one.
        favour("reed 8 1;reed 0 1;player 7;question 1 0;question 9 0;", 1, 2, 1, 0);
        // The last question alone is answered so, by reed 0 alone: the others are asked of others, or none.
        favour("reed 0 1;reed 0 0;player 7;question 2 0;question 3 0;question 1 0;means 3 wait;means 2 wait;", 1, 2, 1, 6, 0);
    }

    private static void favourEdges() {
        EDGES.of(12, "FAVOUR of an ANSWER, 0 .. 2: how many (k NONE), or which REED QUESTION k is asked of. NONE: no such QUESTION, another ANSWER, or there is none such (of either).");
        favour(PLAIN, 1, 0, 6);
        favour("player 7;" + "question 1 0;".repeat(8), 1, 0, 6, 6, 6, 6, 6, 6, 6, 6);
        favour("reed 0 1;player 7;", 1, 0);
        ReedOracles x = Bench.duchy("reed 0 1;player 7;player 7;question 1 0;question 1 0;");
        EDGES.missing("favour", NONE, n -> x.favour(n[0], n[1], n[2], NONE), 1, 2, 3);
        EDGES.missing("its reed", NONE, n -> x.favour(n[0], n[1], n[2], 0), 1, 2, 3);
        for (int k : new int[] {2, 3, 8, -2, Integer.MIN_VALUE, Integer.MAX_VALUE}) {
            EDGES.due("favour, k " + k, x.favour(0, 0, 1, k), NONE);
        }
        for (int answer = 0; answer < 3; answer++) {
            EDGES.due("answer " + answer, x.favour(0, 1, answer, NONE), answer == 1 ? 1 : 0);
        }
    }

    private static void dare(String duchy, int outcome, int first) {
        EDGES.due("dare of " + duchy, Bench.duchy(duchy).dare(0, 0, 0, false), outcome);
        EDGES.due("what he asks first of " + duchy, Bench.duchy(duchy).dare(0, 0, 0, true), first);
    }

    private static void dareByTurns() {
        EDGES.of(13, "two by turns ask it, by this PLAYER, QUESTIONS not asked yet");
        ReedOracles x = Bench.duchy("reed 0 0;player 7;player 6;question 1 0;question 2 0;");
        // By player 0 notes 0 and 1, by player 1 notes 7 and 0.
        EDGES.due("by player 0", x.dare(0, 0, 0, false), 1);
        EDGES.due("by player 0, first", x.dare(0, 0, 0, true), 1);
        EDGES.due("by player 1", x.dare(0, 0, 1, false), 1);
        EDGES.due("by player 1, first", x.dare(0, 0, 1, true), 0);
        // One question is not asked twice: nobody has lost behind it.
        dare("reed 1 5;" + PLAIN, 0, 0);
        dare("reed 1 0;" + PLAIN, 2, 0);
    }

    private static void dareLost() {
        EDGES.of(13, "it is 1 less WET by each, 0 at least; by whom it COUGHS or has NOTE 0 has lost");
        dare("reed 0 0;" + PLAIN, 0, 0);
        dare("reed 0 0;" + DEEP, 0, 0);
        dare("reed 0 1;" + PLAIN, 2, 0);
        dare("reed 0 7;" + PLAIN, 2, 0);
        // Wet 1 and 0: notes 3 and 0: who asks second has lost.
        dare("reed 1 0;player 7;question 1 0;question 1 0;", 1, 0);
        // Wet 1 and 0: depth 2 by breath 1 coughs then: so does whoever asks second.
        dare("reed 1 0;player 1;question 2 0;question 2 0;", 1, 0);
        // 0 at least: the note stays 1.
        dare("reed 0 1;player 7;" + "question 1 0;".repeat(8), 2, 0);
        // Wet 8 has note 0, wet 9 note 3.
        dare("reed 9 0;player 7;question 1 0;question 1 0;", 1, 0);
        // Wet 2, 1, 0 have notes 6, 3, 0: the third to ask, the first one, has lost.
        dare("reed 2 0;player 7;question 1 0;question 1 0;question 1 0;", 0, 0);
    }

    private static void dareAll() {
        EDGES.of(13, "if all are asked, nobody: 1 if the first can make the other one lose, 2 if he can't, nor the other one, else 0");
        dare("reed 0 1;player 7;question 1 0;question 1 0;", 2, 0);
        // Question 0 has note 0: it is left for the other one; of three the first one has it left.
        dare("reed 0 0;player 7;question 1 0;question 2 0;", 1, 1);
        dare("reed 0 0;player 7;question 1 0;question 2 0;question 2 0;", 0, 0);
        dare("reed 0 0;player 7;" + "question 2 0;".repeat(7) + "question 1 0;", 1, 0);
        dare("reed 0 0;player 7;" + "question 2 0;".repeat(8), 2, 0);
        // Depth 8 can be asked first alone; whoever does not ask it leaves it to the other one, who coughs.
        dare("reed 1 1;player 7;question 2 0;question 8 2;", 1, 0);
        // With three he asks it himself and nobody has lost: 3, 7, 1, 8, 10; else it is left to him.
        dare("reed 1 1;player 7;question 2 0;question 2 0;question 8 2;", 2, 2);
    }

    private static void dareFirst() {
        EDGES.of(13, "what he asks first, the least QUESTION that is best (none, if there are no QUESTIONS).");
        dare("reed 0 1;player 7;", 2, NONE);
        dare("reed 0 0;player 7;question 1 0;question 2 0;question 2 0;", 0, 0);
        dare("reed 0 0;player 7;question 1 0;question 1 0;", 0, 0);
        dare("reed 0 0;player 7;question 1 0;question 2 0;", 1, 1);
        // Rather to win than nobody: behind question 0 the other one is safe, behind question 1 he is not.
        dare("reed 1 0;player 7;question 1 0;question 2 0;", 1, 1);
        // Rather nobody than to lose: question 1 first, and then question 0 is safe.
        dare("reed 1 5;player 7;question 1 0;question 2 0;", 2, 1);
        EDGES.of(13, "DARE, or (first) what he asks first (NONE: none). -2: there is none such (of any).");
        ReedOracles x = Bench.duchy("reed 0 1;reed 0 1;player 7;");
        EDGES.due("none", x.dare(0, 1, 0, true), NONE);
        EDGES.due("nobody", x.dare(0, 1, 0, false), 2);
        EDGES.missing("dare", -2, n -> x.dare(n[0], n[1], n[2], false), 1, 2, 1);
        EDGES.missing("what he asks first", -2, n -> x.dare(n[0], n[1], n[2], true), 1, 2, 1);
    }

    private static void program(String duchy, int... questions) {
        ReedOracles x = Bench.duchy(duchy);
        EDGES.due("how many of " + duchy, x.program(0, 0, 0, NONE), questions.length);
        for (int k = 0; k < questions.length; k++) {
            EDGES.due("the " + k + "-th of " + duchy, x.program(0, 0, 0, k), questions[k]);
        }
        EDGES.due("none behind them of " + duchy, x.program(0, 0, 0, questions.length), NONE);
    }

    private static void program() {
        EDGES.of(25, "PROGRAM of a REED, a PLAYER: QUESTIONS asked one behind the other, none twice, as in DARE, so that it never COUGHS nor has NOTE 0: the most; the first such row by numbers.");
        program("reed 0 1;" + PLAIN, 0);
        program("reed 0 0;" + PLAIN);
        program("reed 0 0;" + DEEP);
        program("reed 0 1;player 7;");
        program("reed 0 1;player 7;" + "question 1 0;".repeat(8), 0, 1, 2, 3, 4, 5, 6, 7);
        // Wet 1, 0: notes 3, 0: one alone.
        program("reed 1 0;player 7;question 1 0;question 1 0;", 0);
        // Depth 8 while it is 1 wet: first of all, though 0 is less.
        program("reed 1 1;player 7;question 2 0;question 8 2;question 2 0;", 1, 0, 2);
        // Wet 9 to 2: 27 down to 6: notes 3, 0: so one alone, if all are of depth 1.
        program("reed 9 0;player 7;" + "question 1 0;".repeat(8), 0);
        // A question that is 1 deeper has note 1 there: it is second; behind it come notes 5, 2, 7, 4, 1, 6.
        program("reed 9 0;player 7;" + "question 1 0;".repeat(7) + "question 2 0;", 0, 7, 1, 2, 3, 4, 5, 6);
        EDGES.of(25, "PROGRAM: how many (k NONE), or the k-th. NONE: not so many, or there is none such (of any).");
        ReedOracles x = Bench.duchy("reed 0 1;reed 0 1;player 7;question 1 0;question 1 0;");
        for (int k : new int[] {2, 3, 8, -2, Integer.MIN_VALUE, Integer.MAX_VALUE}) {
            EDGES.due("program, k " + k, x.program(0, 0, 0, k), NONE);
        }
        EDGES.missing("program", NONE, n -> x.program(n[0], n[1], n[2], NONE), 1, 2, 1);
        EDGES.missing("its first", NONE, n -> x.program(n[0], n[1], n[2], 0), 1, 2, 1);
    }

    private static void choir(String duchy, int many, int reeds) {
        EDGES.due("choir of " + duchy, Bench.duchy(duchy).choir(0, 0, false), many);
        EDGES.due("its reeds of " + duchy, Bench.duchy(duchy).choir(0, 0, true), reeds);
    }

    private static void choir() {
        EDGES.of(27, "CHOIR of a PLAYER: the fewest REEDS such that to each QUESTION one of them at least does not COUGH; REEDS (bits), of several sets the least.");
        choir("reed 9 0;player 1;", 0, 0);
        choir("player 1;", 0, 0);
        choir("reed 1 0;" + DEEP, 1, 1);
        choir("reed 0 0;reed 1 0;reed 1 0;" + DEEP, 1, 2);
        choir("reed 0 0;".repeat(5) + "reed 1 0;" + DEEP, 1, 32);
        choir("reed 1 0;reed 3 0;reed 2 0;player 1;question 2 0;question 4 0;question 3 0;", 1, 2);
        choir("reed 9 0;player 6;question 15 0;", 1, 1);
        EDGES.of(27, "CHOIR: how many, or (who) REEDS (bits). NONE: not by all, or there is none such (of either).");
        choir("reed 0 0;" + DEEP, NONE, NONE);
        choir("reed 1 0;player 1;question 2 0;question 3 0;", NONE, NONE);
        choir(PLAIN, NONE, NONE);
        ReedOracles x = Bench.duchy("reed 9 0;player 7;player 7;question 1 0;");
        EDGES.missing("choir", NONE, n -> x.choir(n[0], n[1], false), 1, 2);
        EDGES.missing("its reeds", NONE, n -> x.choir(n[0], n[1], true), 1, 2);
        EDGES.due("no players", Bench.duchy("reed 0 0;question 1 0;").choir(0, 0, false), NONE);
    }

    private static void peace(String duchy, int many, int reeds) {
        EDGES.due("peace of " + duchy, Bench.duchy(duchy).peace(0, 0, false), many);
        EDGES.due("its reeds of " + duchy, Bench.duchy(duchy).peace(0, 0, true), reeds);
    }

    private static void peace() {
        EDGES.of(28, "PEACE of a PLAYER: the most REEDS no two of which ANSWER a QUESTION YES and NO; REEDS (bits), of several sets the least.");
        peace("reed 0 1;reed 0 2;" + PLAIN, 1, 1);
        peace("reed 0 2;reed 0 1;" + PLAIN, 1, 1);
        peace("reed 0 2;reed 0 1;reed 0 1;" + PLAIN, 2, 6);
        peace("reed 0 1;reed 0 2;reed 0 1;reed 0 2;" + PLAIN, 2, 5);
        peace("reed 0 1;".repeat(6) + PLAIN, 6, 63);
        peace("reed 0 1;reed 0 2;means 2 wait;" + PLAIN, 2, 3);
        peace("reed 0 1;reed 0 2;means 1 wait;" + PLAIN, 2, 3);
        // Notes 3, 1 and 2, 2, less 8, and 1 more; the dry one coughs.
        peace("reed 1 2;reed 0 2;reed 1 3;" + DEEP, 2, 3);
        peace("reed 0 1;reed 0 2;player 1;", 2, 3);
        peace("player 1;question 1 0;", 0, 0);
        // To question 0 all say yes, notes 1, 1, 7; to question 1 notes 2, 2, 0: no, no, yes.
        peace("reed 8 1;reed 0 1;reed 5 0;player 7;question 1 0;question 2 0;means 0 yes;", 2, 3);
        peace("reed 5 0;reed 0 1;reed 8 1;player 7;question 2 0;question 1 0;means 0 yes;", 2, 6);
        EDGES.of(28, "PEACE: how many, or (who) REEDS (bits). NONE: there is none such (of either).");
        peace("", NONE, NONE);
        ReedOracles x = Bench.duchy("reed 9 0;player 7;player 7;question 1 0;");
        EDGES.missing("peace", NONE, n -> x.peace(n[0], n[1], false), 1, 2);
        EDGES.missing("its reeds", NONE, n -> x.peace(n[0], n[1], true), 1, 2);
    }

    private static void has(String duchy, int... reeds) {
        ReedOracles x = Bench.duchy(duchy);
        for (int p = 0; p < reeds.length; p++) {
            EDGES.due("player " + p + " has, of " + duchy, x.owns(0, p, false), reeds[p]);
        }
        for (int r = 0; r < x.duchy(0, 0); r++) {
            int who = NONE;
            for (int p = 0; p < reeds.length; p++) {
                who = reeds[p] == r ? p : who;
            }
            EDGES.due("who has " + r + ", of " + duchy, x.owns(0, r, true), who);
        }
        EDGES.due("no player behind them of " + duchy, x.owns(0, reeds.length, false), -2);
    }

    private static void has() {
        EDGES.of(35, "HAS: PLAYERS ask for REEDS one behind the other, of those they have not asked for the one by which of most QUESTIONS they do not COUGH, of several the least; a REED goes with the strongest BREATH of those that asked for it, of several the least PLAYER: which REED each PLAYER has in the end (none: none).");
        has("reed 0 0;player 1;question 1 0;", 0);
        has("reed 0 0;reed 0 0;player 1;question 1 0;", 0);
        has("reed 0 0;reed 1 0;" + DEEP, 1);
        has("reed 0 0;player 1;player 1;question 1 0;", 0, NONE);
        has("reed 0 0;player 1;player 2;question 1 0;", NONE, 0);
        has("reed 0 0;player 2;player 1;player 2;question 1 0;", 0, NONE, NONE);
        has("reed 0 0;reed 1 0;player 1;player 1;question 2 0;", 1, 0);
        has("reed 0 0;reed 1 0;player 1;player 2;question 3 0;", 0, 1);
        has("reed 0 0;reed 0 0;reed 0 0;player 1;player 2;player 3;player 4;question 15 0;", NONE, 2, 1, 0);
        has("reed 0 0;reed 9 0;player 3;player 3;player 3;player 3;", 0, 1, NONE, NONE);
        has("player 1;player 2;question 1 0;", NONE, NONE);
        // Two are heard by reed 2, one by reed 1, none by reed 0.
        has("reed 0 0;reed 1 0;reed 2 0;player 1;player 1;player 1;player 1;question 2 0;question 3 0;", 2, 1, 0, NONE);
        has("reed 0 0;".repeat(6) + "player 9;player 9;player 9;player 9;question 1 0;", 0, 1, 2, 3);
        has("reed 0 0;".repeat(5) + "reed 1 0;" + DEEP, 5);
    }

    private static void owns() {
        EDGES.of(35, "HAS of a PLAYER, or (of a REED) who has it (NONE: none). -2: there is none such (of either).");
        ReedOracles x = Bench.duchy("reed 0 0;reed 0 0;player 1;question 1 0;");
        EDGES.due("whose it is", x.owns(0, 0, true), 0);
        EDGES.due("nobody's", x.owns(0, 1, true), NONE);
        EDGES.missing("owns, of a player", -2, n -> x.owns(n[0], n[1], false), 1, 1);
        EDGES.missing("owns, of a reed", -2, n -> x.owns(n[0], n[1], true), 1, 2);
        ReedOracles bare = Bench.duchy("");
        EDGES.due("no players", bare.owns(0, 0, false), -2);
        EDGES.due("no reeds", bare.owns(0, 0, true), -2);
        EDGES.due("no player, but a reed", Bench.duchy("reed 0 0;").owns(0, 0, true), NONE);
        EDGES.due("no reed, but a player", Bench.duchy("player 1;").owns(0, 0, false), NONE);
    }
}
