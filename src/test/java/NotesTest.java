/** Promises 7, 14 to 17, 22 to 24, 26, 29 to 32, 36, 37: what is counted over notes, worked out by hand. */
public final class NotesTest {
    private static final int NONE = ReedOracles.NONE;
    private static final Bench BENCH = new Bench();
    /** Breath 7 and depth 1 make 8: the note is 3 times the wet, and the key, less the cold. */
    private static final String PLAIN = "player 7;question 1 0;";

    public static void main(String[] args) {
        notes();
        alike();
        lowsAndTold();
        weatherAndFairest();
        chantAndRipe();
        deepestAndEdit();
        marched();
        chords();
        twins();
        wets();
        clearest();
        BENCH.finish();
    }

    private static int plainNote(String reed, String more) {
        return Bench.duchy(reed + PLAIN + more).note(0, 0, 0, 0, false);
    }

    private static void notes() {
        BENCH.due("wet counts thrice", plainNote("reed 1 0;", ""), 3);
        BENCH.due("behind 7 comes 0", plainNote("reed 3 0;", ""), 1);
        BENCH.due("the key counts once", plainNote("reed 0 5;", ""), 5);
        BENCH.due("the cold is taken off", plainNote("reed 0 5;", "cold 2;"), 3);
        BENCH.due("cold 9 of note 0", plainNote("reed 0 0;", "cold 9;"), 7);
        ReedOracles x = Bench.duchy("reed 0 0;reed 5 0;player 2;player 3;question 2 1;question 3 3;question 8 0;means 1 wait;means 3 no;");
        BENCH.due("kind counts five times", x.note(0, 0, 0, 0, false), 1);
        BENCH.due("its answer", x.note(0, 0, 0, 0, true), 2);
        BENCH.due("depth as breath", x.note(0, 0, 1, 1, false), 5);
        BENCH.due("yes", x.note(0, 0, 1, 1, true), 1);
        BENCH.due("depth more than breath", x.note(0, 0, 0, 1, false), NONE);
        BENCH.due("a cough is no answer", x.note(0, 0, 0, 1, true), NONE);
        BENCH.due("depth as wet and breath together", x.note(0, 1, 1, 2, false), 2);
        BENCH.due("one more", x.note(0, 1, 0, 2, false), NONE);
        int[][] wrong = {{1, 0, 0, 0}, {-1, 0, 0, 0}, {0, 2, 0, 0}, {0, -1, 0, 0}, {0, 0, 2, 0}, {0, 0, -1, 0},
            {0, 0, 0, 3}, {0, 0, 0, -1}, {0, Integer.MAX_VALUE, 0, 0}};
        for (int[] w : wrong) {
            BENCH.due("none such", x.note(w[0], w[1], w[2], w[3], false), -2);
            BENCH.due("none such", x.note(w[0], w[1], w[2], w[3], true), -2);
            BENCH.due("weather of none such", x.weather(w[0], w[1], w[2], w[3], 0), NONE);
            BENCH.due("chant of none such", x.chant(w[0], w[1], w[2], w[3], 0), -2);
            BENCH.due("ripe of none such", x.ripe(w[0], w[1], w[2], w[3], 0), NONE);
            BENCH.due("ready of none such", x.ready(w[0], w[1], w[2], w[3], 0, NONE), NONE);
        }
    }

    private static void alike() {
        ReedOracles x = Bench.duchy("reed 0 1;reed 0 3;reed 0 2;reed 1 1;player 7;player 1;question 1 0;question 2 0;");
        // Notes by player 0 (8 and 9 more), player 1 (2 more, depth 2 coughs when dry).
        BENCH.due("1 and 3: yes both, no both, and so on", x.alike(0, 0, 1), 4);
        BENCH.due("1 and 2: only the cough is the same", x.alike(0, 0, 2), 1);
        BENCH.due("1 and 4: none, nor the cough", x.alike(0, 0, 3), 0);
        BENCH.due("itself", x.alike(0, 2, 2), 4);
        BENCH.due("no duchy", x.alike(1, 0, 1), NONE);
        BENCH.due("no reed", x.alike(0, 4, 1), NONE);
        BENCH.due("no reed", x.alike(0, 1, -1), NONE);
        BENCH.due("no couples", Bench.duchy("reed 0 0;reed 1 1;").alike(0, 0, 1), 0);
    }

    private static void lowsAndTold() {
        ReedOracles x = Bench.duchy("reed 0 0;reed 8 0;reed 0 1;means 0 wait;player 7;player 6;question 1 0;question 9 0;");
        // Question 0 by player 0: 0, 0, 1; by 1: 7, 7, 0. Question 1 by player 0: cough, 0, cough; by 1: cough, 7, cough.
        BENCH.due("lows", x.lows(0), 4);
        BENCH.row("told of 0", new long[] {x.told(0, 0, 0), x.told(0, 0, 1), x.told(0, 0, 2), x.told(0, 0, 3)}, 0, 3, 3, 0);
        BENCH.row("told of 1", new long[] {x.told(0, 1, 0), x.told(0, 1, 1), x.told(0, 1, 2), x.told(0, 1, 3)}, 0, 1, 1, 4);
        BENCH.due("told of 2", x.told(0, 2, 0), NONE);
        BENCH.due("told of -1", x.told(0, -1, 0), NONE);
        BENCH.due("told, what 4", x.told(0, 0, 4), NONE);
        BENCH.due("told, what -1", x.told(0, 0, -1), NONE);
        BENCH.due("told of no duchy", x.told(1, 0, 0), NONE);
        BENCH.due("lows of no duchy", x.lows(1), NONE);
        BENCH.due("lows of no duchy", x.lows(-1), NONE);
        BENCH.due("lows of an empty one", Bench.duchy("").lows(0), 0);
    }

    private static void weatherAndFairest() {
        ReedOracles x = Bench.duchy("reed 0 1;cold 4;means 0 wait;question 9 0;" + PLAIN);
        // Question 1 by colds 0 to 9: 1, 0, 7, 6, 5, 4, 3, 2, 1, 0.
        BENCH.row("weather", new long[] {x.weather(0, 0, 0, 1, 0), x.weather(0, 0, 0, 1, 1), x.weather(0, 0, 0, 1, 2)}, 3, 5, 2);
        BENCH.due("weather of a cough", x.weather(0, 0, 0, 0, 1), 0);
        BENCH.due("weather of 3", x.weather(0, 0, 0, 1, 3), NONE);
        BENCH.due("weather of -1", x.weather(0, 0, 0, 1, -1), NONE);
        BENCH.row("fairest", new long[] {x.fairest(0, 0, false), x.fairest(0, 1, false), x.fairest(0, 2, false)}, 3, 0, 1);
        BENCH.row("of how many", new long[] {x.fairest(0, 0, true), x.fairest(0, 1, true), x.fairest(0, 2, true)}, 1, 1, 1);
        BENCH.due("fairest of 3", x.fairest(0, 3, false), NONE);
        BENCH.due("fairest of -1", x.fairest(0, -1, true), NONE);
        BENCH.due("fairest of no duchy", x.fairest(1, 0, false), NONE);
        ReedOracles many = Bench.duchy("reed 0 0;reed 0 2;reed 0 5;" + PLAIN);
        BENCH.due("two noes at cold 0", many.fairest(0, 0, false), 0);
        BENCH.due("two yeses at cold 1", many.fairest(0, 1, false), 1);
        BENCH.due("two", many.fairest(0, 1, true), 2);
        BENCH.due("never", many.fairest(0, 2, false), 0);
        BENCH.due("none", many.fairest(0, 2, true), 0);
    }

    private static void chantAndRipe() {
        ReedOracles x = Bench.duchy("reed 3 0;player 1;question 3 0;means 2 wait;");
        // 3 + 1: note 13 and 16: 5, then 2, then coughs.
        BENCH.due("0 times", x.chant(0, 0, 0, 0, 0), 5);
        BENCH.due("1 time", x.chant(0, 0, 0, 0, 1), 2);
        BENCH.due("2 times", x.chant(0, 0, 0, 0, 2), NONE);
        BENCH.due("20 times", x.chant(0, 0, 0, 0, 20), NONE);
        BENCH.due("21 times", x.chant(0, 0, 0, 0, 21), -2);
        BENCH.due("-1 times", x.chant(0, 0, 0, 0, -1), -2);
        BENCH.due("dry stays dry", Bench.duchy("reed 3 1;" + PLAIN).chant(0, 0, 0, 0, 20), 1);
        BENCH.row("ripe", new long[] {x.ripe(0, 0, 0, 0, 0), x.ripe(0, 0, 0, 0, 1), x.ripe(0, 0, 0, 0, 2)}, -1, 0, 1);
        BENCH.due("ripe of 3", x.ripe(0, 0, 0, 0, 3), NONE);
        BENCH.due("ripe of -1", x.ripe(0, 0, 0, 0, -1), NONE);
        ReedOracles late = Bench.duchy("reed 9 0;means 0 wait;means 3 yes;" + PLAIN);
        // 27, 24: wait behind one night; no is note 2, 18 of wet 6; key 0, wet 0 is note 0 again.
        BENCH.due("wait", late.ripe(0, 0, 0, 0, 2), 1);
        BENCH.due("no", late.ripe(0, 0, 0, 0, 0), 3);
        ReedOracles last = Bench.duchy("reed 9 0;" + PLAIN + "means 0 yes;means 2 yes;means 4 yes;means 6 yes;means 0 wait;");
        BENCH.due("note 0 of wet 8 comes before that of wet 0", last.ripe(0, 0, 0, 0, 2), 1);
        // Depth 1, breath 7 and wet 9 down to 0 pass 27 24 21 18 15 12 9 6 3 0: note 6 behind 7, note 4 behind 5.
        ReedOracles six = Bench.duchy("reed 9 0;" + PLAIN + "means 6 wait;");
        BENCH.due("behind 7 nights", six.ripe(0, 0, 0, 0, 2), 7);
        ReedOracles nine = Bench.duchy("reed 9 0;player 6;question 2 0;cold 1;means 7 wait;");
        // 27 and 8 less 1: 34, 31, ..: 2 7: behind one night.
        BENCH.due("behind one", nine.ripe(0, 0, 0, 0, 2), 1);
    }

    private static void deepestAndEdit() {
        ReedOracles x = Bench.duchy("reed 2 0;reed 0 0;player 4;player 1;question 5 0;question 6 1;question 7 0;question 6 0;question 1 0;");
        BENCH.due("deepest, the least of several", x.deepest(0, 0, 0), 1);
        BENCH.due("deepest by the weak one", x.deepest(0, 0, 1), 4);
        BENCH.due("dry", x.deepest(0, 1, 0), 4);
        BENCH.due("none", Bench.duchy("reed 0 0;player 1;question 2 0;").deepest(0, 0, 0), NONE);
        BENCH.due("no questions", Bench.duchy("reed 0 0;player 1;").deepest(0, 0, 0), NONE);
        BENCH.due("no reed", x.deepest(0, 2, 0), NONE);
        BENCH.due("no player", x.deepest(0, 0, 2), NONE);
        BENCH.due("no duchy", x.deepest(1, 0, 0), NONE);
        // By reed 0, player 0 (10 more): questions 0, 1, 3, 4: notes 7, 5, 0, 3.
        BENCH.row("edit", new long[] {x.edit(0, 0, 0, 0), x.edit(0, 0, 0, 1), x.edit(0, 0, 0, 2)}, 3, 1, 4);
        ReedOracles same = Bench.duchy("reed 0 1;player 7;question 1 0;question 1 0;question 4 1;");
        BENCH.due("one note is changed once", same.edit(0, 0, 0, 0), 1);
        BENCH.due("nothing to change", Bench.duchy("reed 0 0;player 1;question 2 0;").edit(0, 0, 0, 2), 0);
        BENCH.due("edit of 3", x.edit(0, 0, 0, 3), NONE);
        BENCH.due("edit of -1", x.edit(0, 0, 0, -1), NONE);
        BENCH.due("no reed", x.edit(0, -1, 0, 0), NONE);
        BENCH.due("no player", x.edit(0, 0, -1, 0), NONE);
        BENCH.due("no duchy", x.edit(-1, 0, 0, 0), NONE);
    }

    private static void marched() {
        ReedOracles x = Bench.duchy("reed 0 1;reed 0 3;reed 0 2;player 7;player 7;question 1 0;question 9 0;");
        BENCH.due("two reeds, either way", x.marched(0, 0), 2);
        BENCH.due("coughs do not march", x.marched(0, 1), 0);
        BENCH.due("three players", Bench.duchy("reed 0 1;reed 0 3;player 7;player 7;player 7;question 1 0;").marched(0, 0), 6);
        // Player 1 is one less in breath: reed 0 has 1 and 0, reed 1 has 2 and 1: 1 by 0, 1 by 1 alone are the same.
        BENCH.due("one way alone", Bench.duchy("reed 0 1;reed 0 2;player 7;player 6;question 1 0;").marched(0, 0), 2);
        BENCH.due("two waits march", Bench.duchy("reed 0 1;reed 0 1;player 7;player 7;question 1 0;means 1 wait;").marched(0, 0), 2);
        BENCH.due("one player alone", Bench.duchy("reed 0 1;reed 0 1;player 7;question 1 0;").marched(0, 0), 0);
        BENCH.due("no question", x.marched(0, 2), NONE);
        BENCH.due("no question", x.marched(0, -1), NONE);
        BENCH.due("no duchy", x.marched(1, 0), NONE);
    }

    private static void chords() {
        String[] keys = {"0 2 4", "6 0 2", "4 6 0", "1 3 5", "7 5 3", "1 7 5"};
        for (String three : keys) {
            String[] k = three.split(" ");
            String duchy = "reed 0 " + k[0] + ";reed 0 " + k[1] + ";reed 0 " + k[2] + ";" + PLAIN;
            BENCH.due("chord of " + three, Bench.duchy(duchy).chords(0, 0, 0), 1);
        }
        String[] none = {"0 2 5", "0 4 0", "0 0 2", "0 1 4", "2 2 2"};
        for (String three : none) {
            String[] k = three.split(" ");
            String duchy = "reed 0 " + k[0] + ";reed 0 " + k[1] + ";reed 0 " + k[2] + ";" + PLAIN;
            BENCH.due("no chord of " + three, Bench.duchy(duchy).chords(0, 0, 0), 0);
        }
        ReedOracles x = Bench.duchy("reed 0 0;reed 0 2;reed 0 4;reed 0 6;reed 0 0;reed 0 2;question 8 0;" + PLAIN);
        // 0 2 4: 4; 2 4 6: 2; 4 6 0: 2; 6 0 2: 4.
        BENCH.due("many", x.chords(0, 0, 1), 12);
        BENCH.due("coughs", x.chords(0, 0, 0), 0);
        BENCH.due("no player", x.chords(0, 1, 0), NONE);
        BENCH.due("no question", x.chords(0, 0, 2), NONE);
        BENCH.due("no duchy", x.chords(1, 0, 0), NONE);
    }

    private static void twins() {
        ReedOracles x = Bench.duchy("reed 0 3;reed 1 0;reed 0 3;reed 9 0;player 7;question 1 0;");
        // Notes 3, 3, 3, 3.
        BENCH.due("all are twins", x.twins(0, 0), 6);
        ReedOracles deep = Bench.duchy("reed 0 3;reed 1 0;reed 0 3;reed 9 0;player 7;question 1 0;question 8 0;");
        BENCH.due("but by coughs: 0 with 2, 1 with 3", deep.twins(0, 0), 2);
        BENCH.due("nobody plays", Bench.duchy("reed 0 0;reed 1 1;question 1 0;").twins(0, 0), 1);
        BENCH.due("tune: 3, 0, 3, 0 to 3", x.twins(0, 1), 6);
        BENCH.due("tune's key", x.twins(0, 2), 3);
        ReedOracles even = Bench.duchy("reed 0 6;reed 0 2;");
        BENCH.due("four cuts either way", even.twins(0, 1), 4);
        BENCH.due("the least key", even.twins(0, 2), 2);
        ReedOracles over = Bench.duchy("reed 0 7;reed 0 0;");
        BENCH.due("behind 7 comes 0", over.twins(0, 1), 1);
        BENCH.due("its key", over.twins(0, 2), 0);
        ReedOracles none = Bench.duchy("");
        BENCH.row("no reeds", new long[] {none.twins(0, 0), none.twins(0, 1), none.twins(0, 2)}, 0, 0, 0);
        BENCH.due("what 3", x.twins(0, 3), NONE);
        BENCH.due("what -1", x.twins(0, -1), NONE);
        BENCH.due("no duchy", x.twins(1, 0), NONE);
    }

    private static void wets() {
        ReedOracles x = Bench.duchy("reed 5 0;reed 4 0;reed 1 0;reed 0 0;reed 9 0;player 4;player 3;question 2 0;question 11 0;");
        BENCH.row("wets", new long[] {x.wets(0, 0), x.wets(0, 1), x.wets(0, 2), x.wets(0, 3), x.wets(0, 4)}, 1, 2, 3, 3, 0);
        BENCH.due("never", Bench.duchy("reed 9 0;player 1;question 11 0;").wets(0, 0), NONE);
        BENCH.due("just", Bench.duchy("reed 0 0;player 1;question 10 0;").wets(0, 0), 3);
        BENCH.due("nobody plays", Bench.duchy("reed 0 0;question 15 0;").wets(0, 0), 0);
        BENCH.due("no reed", x.wets(0, 5), NONE);
        BENCH.due("no reed", x.wets(0, -1), NONE);
        BENCH.due("no duchy", x.wets(1, 0), NONE);
    }

    private static void clearest() {
        ReedOracles x = Bench.duchy("reed 0 0;reed 1 0;reed 1 2;player 7;player 6;player 5;question 1 0;question 6 0;");
        // Question 0 by the players: 0 7 6; 3 2 1; 5 4 3. Question 1 (5 more): 5 4 cough; 0 7 6; 2 1 0.
        BENCH.due("clearest, the least of several", x.clearest(0, 0, false), 0);
        BENCH.due("how many", x.clearest(0, 0, true), 2);
        BENCH.due("coughs count for nothing", x.clearest(0, 1, false), 1);
        BENCH.due("how many", x.clearest(0, 1, true), 2);
        ReedOracles cough = Bench.duchy("reed 0 0;reed 3 0;player 1;player 1;question 4 0;");
        BENCH.due("a cough is no answer", cough.clearest(0, 0, false), 1);
        BENCH.due("two of it", cough.clearest(0, 0, true), 2);
        ReedOracles none = Bench.duchy("player 1;question 1 0;");
        BENCH.due("no reeds", none.clearest(0, 0, false), NONE);
        BENCH.due("none of no reeds", none.clearest(0, 0, true), 0);
        ReedOracles mute = Bench.duchy("reed 0 0;reed 0 0;question 1 0;");
        BENCH.due("no players", mute.clearest(0, 0, false), 0);
        BENCH.due("none", mute.clearest(0, 0, true), 0);
        BENCH.due("no question", x.clearest(0, 2, false), -2);
        BENCH.due("no question", x.clearest(0, -1, true), -2);
        BENCH.due("no duchy", x.clearest(1, 0, false), -2);
    }
}
