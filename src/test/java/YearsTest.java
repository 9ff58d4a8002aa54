/** Promises 9, 10, 21, 33: a year's course, worked out by hand. */
public final class YearsTest {
    private static final int NONE = ReedOracles.NONE;
    private static final Bench BENCH = new Bench();
    /** Breath 7 and depth 1 make 8: the note is 3 times the wet, and the key, less the cold. */
    private static final String PLAIN = "player 7;player 7;question 1 0;question 1 0;";

    public static void main(String[] args) {
        asks();
        lies();
        waits();
        coughs();
        duets();
        wetAndCut();
        nightsAndPlays();
        whatCannotBe();
        wrongOnes();
        afterwards();
        draws();
        BENCH.finish();
    }

    private static ReedOracles year(String duchy, String year) {
        return Bench.duchyAnd(duchy, 1, year);
    }

    private static long[] states(ReedOracles x, int what, int from, int to) {
        long[] got = new long[to - from + 1];
        for (int n = from; n <= to; n++) {
            got[n - from] = x.state(0, 0, n, what);
        }
        return got;
    }

    private static void asks() {
        ReedOracles x = year("reed 2 1;" + PLAIN, "ask 0 0 0;ask 0 0 1;ask 0 0 1;");
        BENCH.due("stop", x.stop(0, 0), 3);
        BENCH.row("notes", states(x, 7, 0, 3), -1, 7, 4, 1);
        BENCH.row("wet", states(x, 10, 0, 3), 2, 1, 0, 0);
        BENCH.row("plays", states(x, 30, 0, 3), 0, 1, 2, 3);
        BENCH.row("plays of the other one", states(x, 31, 0, 3), 0, 0, 0, 0);
        BENCH.row("question 0", states(x, 40, 0, 3), -1, 1, 1, 1);
        BENCH.row("question 1", states(x, 41, 0, 3), -1, -1, 0, 1);
        BENCH.row("cracked", states(x, 1, 0, 3), 0, 0, 0, 1);
        BENCH.row("deaths", states(x, 2, 0, 3), 0, 0, 0, 0);
        ReedOracles dead = year("reed 0 0;" + PLAIN + "means 0 yes;", "ask 0 0 0;ask 0 1 0;");
        BENCH.row("deaths by note 0", states(dead, 2, 0, 2), 0, 1, 2);
        BENCH.row("note 0", states(dead, 7, 0, 2), -1, 0, 0);
        BENCH.row("coughs", states(dead, 5, 0, 2), 0, 0, 0);
    }

    private static void lies() {
        ReedOracles x = year("reed 0 1;reed 0 2;reed 0 3;" + PLAIN, "ask 0 0 0;ask 1 0 0;ask 2 0 0;");
        BENCH.row("cracked: a lie, and a lie again", states(x, 1, 0, 3), 0, 0, 2, 6);
        BENCH.row("the last answer", states(x, 40, 0, 3), -1, 1, 0, 1);
        BENCH.due("liar", x.after(0, 0, 0), 1);
        ReedOracles other = year("reed 0 1;reed 0 2;" + PLAIN, "ask 0 0 0;ask 1 0 1;");
        BENCH.due("another question is no lie", other.state(0, 0, 2, 1), 0);
        BENCH.due("no liar", other.after(0, 0, 0), NONE);
        ReedOracles gone = year("reed 0 1;reed 5 2;" + PLAIN, "ask 0 0 0;cut 1;cold 2;ask 1 0 0;night;");
        // 15 + 3 - 2 = 16: note 0 means no, the reed cracks, and dries on by nights.
        BENCH.row("a cracked reed's wet", states(gone, 11, 3, 5), 5, 4, 3);
        BENCH.due("death and lie in one", gone.state(0, 0, 4, 2), 1);
        BENCH.due("cracked", gone.state(0, 0, 5, 1), 2);
        BENCH.due("liar", gone.after(0, 0, 0), 3);
    }

    private static void waits() {
        ReedOracles x = year("reed 0 1;reed 0 2;reed 0 4;means 4 wait;" + PLAIN, "ask 2 0 0;ask 0 0 0;ask 2 0 0;night;ask 1 0 0;");
        BENCH.row("wait leaves the last answer", states(x, 40, 0, 5), -1, -1, 1, 1, 1, 0);
        BENCH.row("wait is no lie", states(x, 1, 0, 5), 0, 0, 0, 0, 0, 2);
    }

    private static void coughs() {
        ReedOracles x = year("reed 1 0;player 2;question 3 0;question 4 0;", "ask 0 0 0;ask 0 0 1;ask 0 0 0;");
        // 3 + 2 + 3 + 16 = 24: note 0; then depth 4 is more than 0 and 2.
        BENCH.row("notes", states(x, 7, 0, 3), -1, 0, -1, -1);
        BENCH.row("coughs", states(x, 5, 0, 3), 0, 0, 1, 2);
        BENCH.row("plays", states(x, 30, 0, 3), 0, 1, 2, 3);
        BENCH.row("wet", states(x, 10, 0, 3), 1, 0, 0, 0);
        BENCH.row("a cough is no answer", states(x, 40, 0, 3), -1, 0, 0, 0);
        BENCH.row("nor for the other one", states(x, 41, 0, 3), -1, -1, -1, -1);
        ReedOracles wet = year("reed 3 0;player 2;question 5 0;", "ask 0 0 0;ask 0 0 0;");
        BENCH.row("a cough dries too", states(wet, 10, 0, 2), 3, 2, 1);
        BENCH.row("depth as wet and breath together is no cough", states(wet, 5, 0, 2), 0, 0, 1);
    }

    private static void duets() {
        String duchy = "reed 0 1;reed 0 3;reed 0 2;reed 0 4;means 4 wait;reed 0 0;reed 0 4;" + PLAIN;
        ReedOracles x = year(duchy, "duet 0 1 0 1 0;duet 0 2 1 0 0;duet 0 3 0 1 0;night;duet 3 5 0 1 1;duet 2 4 0 1 0;duet 2 0 0 1 0;");
        BENCH.due("stop", x.stop(0, 0), 7);
        BENCH.row("marches", states(x, 3, 0, 7), 0, 1, 1, 1, 1, 2, 3, 3);
        BENCH.row("clashes", states(x, 4, 0, 7), 0, 0, 1, 1, 1, 1, 1, 2);
        BENCH.row("no death by a duet", states(x, 2, 0, 7), 0, 0, 0, 0, 0, 0, 0, 0);
        BENCH.row("no lie by a duet", states(x, 1, 0, 7), 0, 0, 0, 0, 0, 0, 0, 0);
        BENCH.row("no answer by a duet", states(x, 40, 0, 7), -1, -1, -1, -1, -1, -1, -1, -1);
        BENCH.row("no note of an ask", states(x, 7, 0, 7), -1, -1, -1, -1, -1, -1, -1, -1);
        BENCH.row("plays", states(x, 31, 0, 7), 0, 1, 2, 3, 0, 1, 2, 3);
        ReedOracles keeps = year("reed 0 1;reed 2 2;" + PLAIN, "ask 0 0 0;duet 1 0 0 1 0;");
        BENCH.due("the note of the ask before stays", keeps.state(0, 0, 2, 7), 1);
        BENCH.due("the answer before stays", keeps.state(0, 0, 2, 40), 1);
        BENCH.due("wet of the first", keeps.state(0, 0, 2, 11), 1);
        ReedOracles both = year("reed 0 0;reed 0 0;player 1;player 2;question 5 0;", "duet 0 1 0 1 0;");
        BENCH.due("two coughs are no march", both.state(0, 0, 1, 3), 0);
        BENCH.due("nor a clash", both.state(0, 0, 1, 4), 0);
        BENCH.due("nor coughs by ask", both.state(0, 0, 1, 5), 0);
        ReedOracles order = year("reed 1 0;reed 3 0;player 1;player 4;question 4 0;means 4 yes;", "duet 1 0 0 1 0;duet 0 1 0 1 0;");
        // First reed by first player: 9 + 1 + 4 = 14: 6, no; 3 + 4 + 4 = 11: 3, yes.
        BENCH.row("clashes by who plays which", states(order, 4, 0, 2), 0, 1, 1);
        BENCH.row("wets of both", new long[] {order.state(0, 0, 2, 10), order.state(0, 0, 2, 11)}, 0, 1);
    }

    private static void wetAndCut() {
        ReedOracles x = year("reed 2 6;" + PLAIN, "wet 0;wet 0;wet 0;cut 0;cut 0;cold 7;cold 0;");
        BENCH.row("wet", states(x, 10, 0, 7), 2, 5, 8, 9, 9, 9, 9, 9);
        BENCH.row("key", states(x, 20, 0, 7), 6, 6, 6, 6, 7, 0, 0, 0);
        BENCH.row("cold", states(x, 6, 0, 7), 0, 0, 0, 0, 0, 0, 7, 0);
    }

    private static void nightsAndPlays() {
        ReedOracles x = year("reed 1 1;reed 0 1;cold 3;means 6 yes;" + PLAIN, "ask 0 0 0;night;night;ask 0 0 0;ask 0 0 0;ask 0 0 0;ask 0 0 0;night;");
        BENCH.due("a fourth play can't be", x.stop(0, 0), 6);
        BENCH.row("nights", states(x, 0, 0, 6), 0, 0, 1, 2, 2, 2, 2);
        BENCH.row("plays", states(x, 30, 0, 6), 0, 1, 0, 0, 1, 2, 3);
        BENCH.row("wet", states(x, 10, 0, 6), 1, 0, 0, 0, 0, 0, 0);
        BENCH.row("cold as told at first", states(x, 6, 0, 6), 3, 3, 3, 3, 3, 3, 3);
        ReedOracles four = year("reed 9 0;" + PLAIN, "night;".repeat(40));
        BENCH.due("forty nights", four.state(0, 0, 40, 0), 40);
        BENCH.due("dry", four.state(0, 0, 40, 10), 0);
        BENCH.due("nine nights", four.state(0, 0, 8, 10), 1);
    }

    private static void whatCannotBe() {
        String one = "reed 0 1;reed 0 2;reed 0 1;" + PLAIN;
        String[] stops = {"ask 3 0 0;", "ask 0 2 0;", "ask 0 0 2;", "wet 3;", "cut 3;", "duet 3 0 0 1 0;",
            "duet 0 3 0 1 0;", "duet 0 1 2 1 0;", "duet 0 1 0 2 0;", "duet 0 1 0 1 2;"};
        for (String deed : stops) {
            BENCH.due(deed + " stops", year(one, "night;" + deed + "night;").stop(0, 0), 1);
        }
        // Reed 1 lies and is cracked.
        String lie = "ask 0 0 0;ask 1 0 0;night;";
        String[] cracked = {"ask 1 0 0;", "wet 1;", "cut 1;", "duet 1 0 0 1 0;", "duet 0 1 0 1 0;"};
        for (String deed : cracked) {
            BENCH.due(deed + " of a cracked one stops", year(one, lie + deed).stop(0, 0), 3);
        }
        String tired = "ask 0 0 0;ask 0 0 0;ask 0 0 0;";
        BENCH.due("a tired first player stops", year(one, tired + "duet 0 2 0 1 0;").stop(0, 0), 3);
        BENCH.due("a tired second player stops", year(one, tired + "duet 0 2 1 0 0;").stop(0, 0), 3);
        BENCH.due("the other one may play", year(one, tired + "ask 0 1 0;").stop(0, 0), 4);
        BENCH.due("behind a night he may", year(one, tired + "night;duet 0 2 1 0 0;").stop(0, 0), 5);
        BENCH.due("nothing is done of what can't be", year(one, tired + "duet 0 2 1 0 0;").state(0, 0, 3, 31), 0);
    }

    private static void wrongOnes() {
        ReedOracles x = year("reed 0 1;" + PLAIN, "night;ask 5 0 0;night;");
        BENCH.due("stop", x.stop(0, 0), 1);
        BENCH.due("stop of no duchy", x.stop(1, 0), NONE);
        BENCH.due("stop of no year", x.stop(0, 1), NONE);
        BENCH.due("stop of -1", x.stop(-1, -1), NONE);
        BENCH.due("state of no duchy", x.state(1, 0, 0, 0), -2);
        BENCH.due("state of no year", x.state(0, 1, 0, 0), -2);
        BENCH.due("state -1", x.state(0, 0, -1, 0), -2);
        BENCH.due("state 1", x.state(0, 0, 1, 0), 1);
        BENCH.due("state behind stop", x.state(0, 0, 2, 0), -2);
        BENCH.due("state behind all", x.state(0, 0, 4, 0), -2);
        int[] whats = {-1, 8, 9, 11, 15, 19, 21, 29, 32, 39, 42, 47, 50, Integer.MAX_VALUE, Integer.MIN_VALUE};
        for (int what : whats) {
            BENCH.due("state, what " + what, x.state(0, 0, 0, what), -2);
            BENCH.due("drawn, what " + what, x.drawn(0, 1, 0, what), -2);
        }
        BENCH.due("after of no duchy", x.after(1, 0, 0), -2);
        BENCH.due("after of no year", x.after(0, 1, 0), -2);
        BENCH.due("after, what 4", x.after(0, 0, 4), -2);
        BENCH.due("after, what -1", x.after(0, 0, -1), -2);
    }

    private static void afterwards() {
        ReedOracles none = year("", "night;");
        for (int what = 0; what < 4; what++) {
            BENCH.due("after nothing, " + what, none.after(0, 0, what), NONE);
        }
        String duchy = "reed 3 1;reed 2 1;reed 2 1;" + PLAIN;
        ReedOracles x = year(duchy, "duet 0 1 0 1 1;ask 0 1 0;ask 2 1 1;ask 5 0 0;ask 0 0 0;ask 0 0 0;ask 0 0 0;");
        // Reeds are left 1, 1, 1 wet; player 1 has played three times, 0 once; question 1 was asked twice.
        BENCH.due("famous", x.after(0, 0, 1), 1);
        BENCH.due("hoarse", x.after(0, 0, 2), 1);
        BENCH.due("driest, the least of several", x.after(0, 0, 3), 0);
        ReedOracles once = year(duchy, "duet 0 1 0 1 1;ask 0 1 0;");
        BENCH.due("a duet asks once: the least of several", once.after(0, 0, 1), 0);
        ReedOracles even = year(duchy, "ask 0 1 1;ask 1 0 0;wet 0;");
        BENCH.due("famous, the least of several", even.after(0, 0, 1), 0);
        BENCH.due("hoarse, the least of several", even.after(0, 0, 2), 0);
        BENCH.due("driest", even.after(0, 0, 3), 1);
        ReedOracles nights = year(duchy, "ask 0 0 0;night;ask 0 1 0;night;ask 0 1 0;night;");
        BENCH.due("hoarse in all, not since the night", nights.after(0, 0, 2), 1);
    }

    private static void draws() {
        ReedOracles x = Bench.duchy("reed 5 1;reed 2 6;" + PLAIN);
        BENCH.due("nothing drawn", x.drawn(0, 77, 0, 10), 5);
        BENCH.due("61 times", x.drawn(0, 77, 61, 0), -2);
        BENCH.due("-1 times", x.drawn(0, 77, -1, 0), -2);
        BENCH.due("no such duchy", x.drawn(1, 77, 0, 0), -2);
        BENCH.due("no such duchy", x.drawn(-1, 77, 0, 0), -2);
        // By seed 0: 12345 >>> 16 is 0: an ask; then 0xD3DC167E >>> 16 = 54236, 0xD6651C2F = 54885,
        // 0xF8C4AC14 >>> 16: the reed, the player and the question are their remainders by 2.
        int seed = 0;
        int[] drawn = new int[4];
        for (int i = 0; i < 4; i++) {
            seed = seed * 1103515245 + 12345;
            drawn[i] = seed >>> 16;
        }
        BENCH.due("first draw is an ask", drawn[0] % 8, 0);
        BENCH.due("second draw", drawn[1], 54236);
        int reed = drawn[1] % 2;
        BENCH.due("who plays", x.drawn(0, 0, 1, 30 + drawn[2] % 2), 1);
        BENCH.due("which reed dries", x.drawn(0, 0, 1, 10 + reed), reed == 0 ? 4 : 1);
        BENCH.due("which does not", x.drawn(0, 0, 1, 11 - reed), reed == 0 ? 2 : 5);
        BENCH.due("which question is answered", x.drawn(0, 0, 1, 40 + drawn[3] % 2) != NONE, true);
        BENCH.due("which is not", x.drawn(0, 0, 1, 41 - drawn[3] % 2), NONE);
        ReedOracles bare = Bench.duchy("");
        int nights = 0;
        int cold = 0;
        seed = 5;
        for (int i = 0; i < 60; i++) {
            seed = seed * 1103515245 + 12345;
            int kind = (seed >>> 16) % 8;
            nights += kind == 7 ? 1 : 0;
            if (kind == 6) {
                seed = seed * 1103515245 + 12345;
                cold = (seed >>> 16) % 10;
            }
        }
        BENCH.due("nights without reeds", bare.drawn(0, 5, 60, 0), nights);
        BENCH.due("cold without reeds", bare.drawn(0, 5, 60, 6), cold);
    }
}
