/** Promises 11 to 13, 25, 27, 28, 35: what is chosen over many ways, worked out by hand. */
public final class PlansTest {
    private static final int NONE = ReedOracles.NONE;
    private static final Bench BENCH = new Bench();
    /** Breath 7 and depth 1 make 8: the note is 3 times the wet, and the key, less the cold. */
    private static final String PLAIN = "player 7;question 1 0;";

    public static void main(String[] args) {
        ready();
        favour();
        dare();
        program();
        choir();
        peace();
        owns();
        BENCH.finish();
    }

    private static void ready(String duchy, int answer, long... acts) {
        ReedOracles x = Bench.duchy(duchy);
        int many = x.ready(0, 0, 0, 0, answer, NONE);
        long[] got = new long[Math.max(0, many)];
        for (int k = 0; k < many; k++) {
            got[k] = x.ready(0, 0, 0, 0, answer, k);
        }
        BENCH.row("ready of " + duchy, got, acts);
        BENCH.due("how many acts", many, acts.length);
        BENCH.due("not so many", x.ready(0, 0, 0, 0, answer, acts.length), NONE);
        BENCH.due("the -2nd", x.ready(0, 0, 0, 0, answer, -2), NONE);
    }

    private static void ready() {
        ready("reed 0 1;" + PLAIN, 1);
        ready("reed 0 1;" + PLAIN, 0, 0);
        // At 9 wet stays: the cut is next.
        ready("reed 9 0;" + PLAIN, 0, 1);
        String wait = "means 0 no;means 1 no;means 2 no;means 3 no;means 4 no;means 5 no;means 6 no;means 7 no;";
        ready("reed 9 0;means 3 wait;" + PLAIN, 2);
        // 22: two more by a wet, 9 more, and a cut, before two cuts.
        ready("reed 5 7;" + wait + "means 0 wait;" + PLAIN, 2, 0, 1);
        // 8 wet makes 24: note 0 by one dry.
        ready("reed 9 0;" + wait + "means 0 wait;" + PLAIN, 2, 2);
        // Cold 9, key 1, wet 8: 16: note 0; note 1 by a cut, before warm; note 7 by cool alone, which is not there at 9.
        ready("reed 8 1;cold 9;" + wait + "means 1 wait;" + PLAIN, 2, 1);
        ready("reed 8 1;cold 8;" + wait + "means 0 wait;" + PLAIN, 2, 4);
        // Note 2 from 0: two wets are 18 more; at 9 they are nothing, and two cuts come before cut and warm.
        ready("reed 0 0;cold 8;" + wait + "means 2 wait;" + PLAIN, 2, 0, 0);
        ready("reed 9 5;cold 8;" + wait + "means 2 wait;" + PLAIN, 2, 1, 1);
        // Depth 6, breath 1: from wet 0 two wets, then 18 + 7 = 1.
        ready("reed 0 0;player 1;question 6 0;", 1, 0, 0);
        ReedOracles x = Bench.duchy("reed 0 1;player 1;question 11 0;question 1 0;");
        BENCH.due("coughs for ever", x.ready(0, 0, 0, 0, 1, NONE), NONE);
        BENCH.due("coughs for ever", x.ready(0, 0, 0, 0, 1, 0), NONE);
        BENCH.due("wait is not in the book", x.ready(0, 0, 0, 1, 2, NONE), NONE);
        BENCH.due("answer 3", x.ready(0, 0, 0, 1, 3, NONE), NONE);
        BENCH.due("answer -1", x.ready(0, 0, 0, 1, -1, NONE), NONE);
    }

    private static long[] favours(ReedOracles x, int answer, int to) {
        long[] got = new long[to + 2];
        for (int k = -1; k <= to; k++) {
            got[k + 1] = x.favour(0, 0, answer, k);
        }
        return got;
    }

    private static void favour() {
        // Question 0 is answered yes by reed 0 and 1, question 1 by reed 2 alone.
        ReedOracles x = Bench.duchy("reed 0 1;reed 0 3;reed 0 2;player 7;question 1 0;question 2 0;question 9 0;");
        BENCH.row("yes: row 0 2 1", favours(x, 1, 3), 2, 0, 2, 1, -1);
        // No: question 0 by reed 2, question 1 by reed 0 or 1.
        BENCH.row("no: row 2 0 1", favours(x, 0, 3), 2, 2, 0, 1, -1);
        BENCH.row("wait: the first row", favours(x, 2, 3), 0, 0, 1, 2, -1);
        ReedOracles few = Bench.duchy("reed 0 1;player 7;question 2 0;question 1 0;question 1 0;");
        BENCH.row("one reed: none, it, none", favours(few, 1, 3), 1, 6, 0, 6, -1);
        ReedOracles tight = Bench.duchy("reed 0 1;reed 8 1;player 7;question 1 0;question 9 0;");
        BENCH.row("reed 1 alone does not cough by question 1", favours(tight, 1, 1), 2, 0, 1);
        // Both answer yes to question 0, reed 0 alone to question 1.
        ReedOracles swap = Bench.duchy("reed 8 1;reed 0 1;player 7;question 1 0;question 9 0;");
        BENCH.row("so reed 0 is kept for it", favours(swap, 1, 1), 2, 1, 0);
        BENCH.row("no reeds", favours(Bench.duchy(PLAIN), 1, 1), 0, 6, -1);
        BENCH.row("no questions", favours(Bench.duchy("reed 1 1;player 1;"), 1, 0), 0, -1);
        BENCH.due("k -2", x.favour(0, 0, 1, -2), NONE);
        BENCH.due("answer 3", x.favour(0, 0, 3, NONE), NONE);
        BENCH.due("answer -1", x.favour(0, 0, -1, NONE), NONE);
        BENCH.due("no player", x.favour(0, 1, 0, NONE), NONE);
        BENCH.due("no player", x.favour(0, -1, 0, 0), NONE);
        BENCH.due("no duchy", x.favour(1, 0, 0, NONE), NONE);
    }

    private static void dare() {
        ReedOracles lost = Bench.duchy("reed 0 0;" + PLAIN);
        BENCH.due("note 0 loses", lost.dare(0, 0, 0, false), 0);
        BENCH.due("but he asks the least", lost.dare(0, 0, 0, true), 0);
        ReedOracles drawn = Bench.duchy("reed 0 1;" + PLAIN);
        BENCH.due("nobody", drawn.dare(0, 0, 0, false), 2);
        BENCH.due("by question 0", drawn.dare(0, 0, 0, true), 0);
        // Question 0 has note 0, question 1 note 1: he asks 1, the other one must ask 0.
        ReedOracles won = Bench.duchy("reed 0 0;player 7;question 1 0;question 2 0;");
        BENCH.due("wins", won.dare(0, 0, 0, false), 1);
        BENCH.due("by question 1", won.dare(0, 0, 0, true), 1);
        // Two safe ones and one that is lost: the third has to be asked by the first one.
        ReedOracles odd = Bench.duchy("reed 0 0;player 7;question 1 0;question 2 0;question 3 0;");
        BENCH.due("loses by the third", odd.dare(0, 0, 0, false), 0);
        BENCH.due("all are alike then", odd.dare(0, 0, 0, true), 0);
        // Wet 1: behind one question depth 8 coughs.
        ReedOracles dry = Bench.duchy("reed 1 1;player 7;question 2 0;question 8 2;");
        BENCH.due("the other one coughs", dry.dare(0, 0, 0, false), 1);
        BENCH.due("by question 0", dry.dare(0, 0, 0, true), 0);
        ReedOracles none = Bench.duchy("reed 0 1;player 7;");
        BENCH.due("no questions: nobody", none.dare(0, 0, 0, false), 2);
        BENCH.due("none first", none.dare(0, 0, 0, true), NONE);
        BENCH.due("no reed", won.dare(0, 1, 0, false), -2);
        BENCH.due("no reed", won.dare(0, -1, 0, true), -2);
        BENCH.due("no player", won.dare(0, 0, 1, false), -2);
        BENCH.due("no player", won.dare(0, 0, -1, true), -2);
        BENCH.due("no duchy", won.dare(1, 0, 0, false), -2);
    }

    private static long[] program(ReedOracles x, int to) {
        long[] got = new long[to + 2];
        for (int k = -1; k <= to; k++) {
            got[k + 1] = x.program(0, 0, 0, k);
        }
        return got;
    }

    private static void program() {
        // Depth 8 must be asked while the reed is wet: first of all.
        ReedOracles deep = Bench.duchy("reed 1 0;player 7;question 2 0;question 8 0;question 3 0;");
        // 3, 7 and the depth: 4, 2, 5 when wet; 1, cough, 2 when dry.
        BENCH.row("the deep one first", program(deep, 3), 3, 1, 0, 2, -1);
        ReedOracles low = Bench.duchy("reed 0 0;player 7;question 1 0;question 2 0;question 9 0;question 3 0;");
        BENCH.row("neither note 0 nor a cough", program(low, 2), 2, 1, 3, -1);
        BENCH.row("none", program(Bench.duchy("reed 0 0;" + PLAIN), 0), 0, -1);
        BENCH.row("no questions", program(Bench.duchy("reed 0 0;player 1;"), 0), 0, -1);
        String eight = "question 2 0;".repeat(8);
        BENCH.row("all eight", program(Bench.duchy("reed 0 0;player 7;" + eight), 8), 8, 0, 1, 2, 3, 4, 5, 6, 7, -1);
        BENCH.due("k -2", low.program(0, 0, 0, -2), NONE);
        BENCH.due("no reed", low.program(0, 1, 0, NONE), NONE);
        BENCH.due("no player", low.program(0, 0, 1, NONE), NONE);
        BENCH.due("no duchy", low.program(1, 0, 0, NONE), NONE);
    }

    private static void choir() {
        ReedOracles x = Bench.duchy("reed 1 0;reed 5 0;reed 3 0;reed 5 0;player 4;player 9;player 1;question 2 0;question 9 0;");
        BENCH.due("one is enough", x.choir(0, 0, false), 1);
        BENCH.due("the least set of one", x.choir(0, 0, true), 2);
        BENCH.due("the strong one", x.choir(0, 1, true), 1);
        BENCH.due("not by all", x.choir(0, 2, false), NONE);
        BENCH.due("not by all", x.choir(0, 2, true), NONE);
        ReedOracles none = Bench.duchy("reed 1 0;player 4;");
        BENCH.due("no questions", none.choir(0, 0, false), 0);
        BENCH.due("no questions", none.choir(0, 0, true), 0);
        BENCH.due("no reeds", Bench.duchy(PLAIN).choir(0, 0, false), NONE);
        BENCH.due("no player", x.choir(0, 3, false), NONE);
        BENCH.due("no player", x.choir(0, -1, true), NONE);
        BENCH.due("no duchy", x.choir(1, 0, false), NONE);
    }

    private static void peace() {
        // Notes 1, 2, 3, 4, 5: yes, no, yes, wait, yes.
        ReedOracles x = Bench.duchy("reed 0 1;reed 0 2;reed 0 3;reed 0 4;reed 0 5;means 4 wait;" + PLAIN);
        BENCH.due("all but the no", x.peace(0, 0, false), 4);
        BENCH.due("who", x.peace(0, 0, true), 29);
        ReedOracles even = Bench.duchy("reed 0 2;reed 0 1;" + PLAIN);
        BENCH.due("one", even.peace(0, 0, false), 1);
        BENCH.due("the least set", even.peace(0, 0, true), 1);
        ReedOracles mute = Bench.duchy("reed 0 2;reed 0 1;player 1;question 2 0;");
        BENCH.due("coughs are peaceful", mute.peace(0, 0, true), 3);
        BENCH.due("no reeds", Bench.duchy(PLAIN).peace(0, 0, false), 0);
        BENCH.due("no reeds", Bench.duchy(PLAIN).peace(0, 0, true), 0);
        // By question 1, kind 1, notes are 5 more, which turns yes and no about: still one foe each.
        ReedOracles two = Bench.duchy("reed 0 1;reed 0 3;reed 0 2;player 7;question 1 0;question 1 1;");
        BENCH.due("two questions", two.peace(0, 0, true), 3);
        BENCH.due("no player", x.peace(0, 1, false), NONE);
        BENCH.due("no player", x.peace(0, -1, true), NONE);
        BENCH.due("no duchy", x.peace(1, 0, false), NONE);
    }

    private static void owns() {
        ReedOracles x = Bench.duchy("reed 1 0;reed 5 0;reed 5 0;player 3;player 4;player 4;player 2;question 2 0;question 9 0;question 6 0;");
        // Player 1 (9 at most) hears most by reed 1, player 2 by reed 2; player 0 then has reed 0, player 3 none.
        BENCH.row("who has which", new long[] {x.owns(0, 0, false), x.owns(0, 1, false), x.owns(0, 2, false), x.owns(0, 3, false)}, 0, 1, 2, -1);
        BENCH.row("which has whom", new long[] {x.owns(0, 0, true), x.owns(0, 1, true), x.owns(0, 2, true)}, 0, 1, 2);
        ReedOracles one = Bench.duchy("reed 0 0;reed 0 0;player 1;question 15 0;");
        BENCH.due("the least of several, coughing or not", one.owns(0, 0, false), 0);
        BENCH.due("the other one is left", one.owns(0, 1, true), NONE);
        BENCH.due("no reed", x.owns(0, 3, true), -2);
        BENCH.due("no reed", x.owns(0, -1, true), -2);
        BENCH.due("no player", x.owns(0, 4, false), -2);
        BENCH.due("no player", x.owns(0, -1, false), -2);
        BENCH.due("no duchy", x.owns(1, 0, false), -2);
        BENCH.due("no reeds", Bench.duchy(PLAIN).owns(0, 0, false), NONE);
    }
}
