/** Boundary cases of promises 9, 10, 21 and 33: a year deed by deed, drawn deeds, what is said of a year. */
public final class EdgesYearsTest {
    private static final int NONE = ReedOracles.NONE;
    private static final Edges EDGES = new Edges(9, 10, 21, 33);
    /** Breath 7 and depth 1 make 8: the note is 3 times the wet, and the key, less the cold. */
    private static final String PLAIN = "player 7;player 7;question 1 0;question 1 0;";
    private static final String ALL_YES = "means 0 yes;means 2 yes;means 4 yes;means 6 yes;";
    /** Reeds that answer question 0 or 1: 0 yes, 1 no, 2 wait, 3 cough, 4 yes, 5 no; each once, then they are dryer. */
    private static final String CHOICE = "reed 9 0;reed 9 1;reed 9 3;reed 0 0;reed 9 0;reed 9 1;means 4 wait;"
        + "player 1;player 1;question 5 0;question 5 0;";

    public static void main(String[] args) {
        beginning();
        plays();
        deaths();
        lies();
        lastAnswers();
        driedByAsks();
        duets();
        duetsByWhom();
        wets();
        cuts();
        colds();
        nights();
        cannotBe();
        stops();
        statesUpToStop();
        stateDetails();
        draws();
        drawsOf32Bits();
        drawsThatMayNot();
        drawsWithout();
        liars();
        famous();
        hoarse();
        driest();
        upToStop();
        afterDetails();
        EDGES.finish();
    }

    private static ReedOracles year(String duchy, String year) {
        return Bench.duchyAnd(duchy, 1, year);
    }

    private static void states(String call, ReedOracles x, int what, int... want) {
        for (int n = 0; n < want.length; n++) {
            EDGES.due(call + ", behind " + n, x.state(0, 0, n, what), want[n]);
        }
    }

    private static void stop(String duchy, String deeds, int want) {
        EDGES.due("stop of " + deeds, year(duchy, deeds).stop(0, 0), want);
    }

    private static void beginning() {
        EDGES.of(10, "A YEAR of a DUCHY begins with all as told; no REED is CRACKED, no QUESTION has been ANSWERED, nobody has played.");
        ReedOracles x = year("reed 9 7;reed 0 0;cold 4;" + PLAIN, "ask 0 0 0;ask 1 1 0;cut 0;cold 9;night;wet 0;");
        int[] whats = {0, 1, 2, 3, 4, 5, 6, 7, 10, 11, 20, 21, 30, 31, 40, 41};
        int[] want = {0, 0, 0, 0, 0, 0, 4, -1, 9, 0, 7, 0, 0, 0, -1, -1};
        // Notes 30 and -4: 6 and 4, both no.
        EDGES.due("behind all, cold", x.state(0, 0, 6, 6), 9);
        for (int i = 0; i < whats.length; i++) {
            EDGES.due("at first, what " + whats[i], x.state(0, 0, 0, whats[i]), want[i]);
        }
        EDGES.due("the duchy stays as told, wet", x.duchy(0, 10), 9);
        EDGES.due("the duchy stays as told, key", x.duchy(0, 20), 7);
        EDGES.due("the duchy stays as told, cold", x.duchy(0, 3), 4);
        Bench.tell(x, 0, NONE, "reed 0 1;reed 0 2;" + PLAIN);
        EDGES.due("in another duchy the second is a lie", x.state(1, 0, 2, 1), 2);
        EDGES.due("and behind that the first again none", x.state(1, 0, 1, 1), 0);
        EDGES.due("nor in the first duchy", x.state(0, 0, 2, 1), 0);
        EDGES.due("no deeds at all", year("reed 1 1;", "").state(0, 0, 0, 10), 1);
    }

    private static void plays() {
        EDGES.of(9, "ask: a REED that is not CRACKED, a PLAYER who has played less than 3 times since the last night: it COUGHS or has its NOTE");
        String duchy = "reed 9 0;reed 9 0;" + ALL_YES + PLAIN;
        String ask = "ask 0 0 0;";
        stop(duchy, ask.repeat(3), 3);
        stop(duchy, ask.repeat(4), 3);
        stop(duchy, ask.repeat(3) + "ask 1 0 1;", 3);
        stop(duchy, ask.repeat(3) + "ask 0 1 0;", 4);
        stop(duchy, ask.repeat(3) + "night;" + ask.repeat(4), 7);
        stop(duchy, ask + "night;" + ask.repeat(4), 5);
        stop(duchy, ask.repeat(3) + "night;night;" + ask.repeat(3), 8);
        stop(duchy, "duet 0 1 0 1 0;".repeat(3) + ask, 3);
        stop(duchy, "duet 0 1 0 1 0;".repeat(3) + "ask 0 1 0;", 3);
        stop(duchy, ask.repeat(2) + "duet 0 1 0 1 0;" + "ask 0 1 0;".repeat(3), 5);
        stop("reed 0 1;reed 0 2;" + PLAIN, "ask 0 0 0;ask 1 0 0;ask 1 1 0;", 2);
        stop("reed 0 1;reed 0 2;" + PLAIN, "ask 0 0 0;ask 1 0 0;night;ask 1 1 1;", 3);
        stop("reed 0 1;reed 0 2;" + PLAIN, "ask 0 0 0;ask 1 0 0;ask 0 1 1;", 3);
        states("how often he has played", year(duchy, ask.repeat(3) + "night;" + ask), 30, 0, 1, 2, 3, 0, 1);
    }

    private static void deaths() {
        EDGES.of(10, "if its NOTE is 0, it is a DEATH");
        int[][] wetKeyCold = {{0, 0, 0}, {0, 7, 7}, {8, 0, 0}, {1, 5, 0}, {0, 1, 9}, {9, 6, 9}};
        for (int[] one : wetKeyCold) {
            String duchy = "reed " + one[0] + " " + one[1] + ";cold " + one[2] + ";" + PLAIN;
            for (String means : new String[] {"", "means 0 yes;", "means 0 wait;"}) {
                ReedOracles x = year(duchy + means, "ask 0 0 0;");
                EDGES.due("deaths of " + duchy + means, x.state(0, 0, 1, 2), 1);
                EDGES.due("its note", x.state(0, 0, 1, 7), 0);
            }
        }
        EDGES.due("note 1", year("reed 0 1;" + PLAIN, "ask 0 0 0;").state(0, 0, 1, 2), 0);
        EDGES.due("note 7", year("reed 0 7;" + PLAIN, "ask 0 0 0;").state(0, 0, 1, 2), 0);
        ReedOracles cough = year("reed 0 0;player 1;question 2 0;", "ask 0 0 0;");
        EDGES.due("a cough is no death", cough.state(0, 0, 1, 2), 0);
        EDGES.due("it is a cough", cough.state(0, 0, 1, 5), 1);
        states("deaths", year("reed 0 0;" + PLAIN, "ask 0 0 0;ask 0 0 1;night;ask 0 0 0;"), 2, 0, 1, 2, 2, 3);
    }

    /** What reeds of CHOICE, asked one behind the other, crack, and how question 0 was answered last. */
    private static void choice(String reeds, int cracked, int last) {
        StringBuilder deeds = new StringBuilder();
        for (int i = 0; i < reeds.length(); i++) {
            deeds.append("ask ").append(reeds.charAt(i)).append(" ").append(i / 3).append(" 0;");
        }
        ReedOracles x = year(CHOICE, deeds.toString());
        EDGES.due("cracked by " + deeds, x.state(0, 0, reeds.length(), 1), cracked);
        EDGES.due("answered last by " + deeds, x.state(0, 0, reeds.length(), 40), last);
        EDGES.due("the other question by " + deeds, x.state(0, 0, reeds.length(), 41), NONE);
    }

    private static void lies() {
        EDGES.of(10, "if it ANSWERS YES or NO, and the QUESTION was ANSWERED the other one of these last, the REED is CRACKED (a LIE)");
        choice("0", 0, 1);
        choice("1", 0, 0);
        choice("01", 2, 0);
        choice("10", 1, 1);
        choice("04", 0, 1);
        choice("15", 0, 0);
        choice("02", 0, 1);
        choice("20", 0, 1);
        choice("21", 0, 0);
        choice("03", 0, 1);
        choice("30", 0, 1);
        choice("021", 2, 0);
        choice("031", 2, 0);
        choice("120", 1, 1);
        choice("014", 18, 1);
        choice("0145", 50, 0);
        choice("105", 33, 0);
        ReedOracles other = year(CHOICE, "ask 0 0 0;ask 1 0 1;");
        EDGES.due("of another question it is no lie", other.state(0, 0, 2, 1), 0);
        // 27 and 24: yes and no by the same reed.
        EDGES.due("the same reed", year("reed 9 0;" + PLAIN, "ask 0 0 0;ask 0 1 0;").state(0, 0, 2, 1), 1);
    }

    private static void lastAnswers() {
        EDGES.of(10, "what it ANSWERS, if anything but WAIT, is how the QUESTION was ANSWERED last");
        choice("2", 0, NONE);
        choice("3", 0, NONE);
        choice("23", 0, NONE);
        choice("02", 0, 1);
        choice("12", 0, 0);
        choice("13", 0, 0);
        choice("01", 2, 0);
        choice("102", 1, 1);
        ReedOracles x = year(CHOICE, "ask 0 0 1;cold 0;ask 1 0 0;");
        states("question 0", x, 40, -1, -1, -1, 0);
        states("question 1", x, 41, -1, 1, 1, 1);
    }

    private static void driedByAsks() {
        EDGES.of(10, "WET is 1 less, 0 at least.");
        states("wet", year("reed 2 1;" + ALL_YES + PLAIN, "ask 0 0 0;ask 0 0 0;ask 0 0 0;ask 0 1 0;"), 10, 2, 1, 0, 0, 0);
        states("wet by coughs", year("reed 1 1;player 1;question 15 0;", "ask 0 0 0;ask 0 0 0;ask 0 0 0;"), 10, 1, 0, 0, 0);
        states("wet of one that cracks", year("reed 9 0;" + PLAIN, "ask 0 0 0;ask 0 0 0;"), 10, 9, 8, 7);
        states("wet of another one", year("reed 9 0;reed 4 0;" + PLAIN, "ask 0 0 0;ask 0 0 0;"), 11, 4, 4, 4);
        states("by notes 27 and 24", year("reed 9 0;" + PLAIN, "ask 0 0 0;ask 0 0 0;"), 7, -1, 3, 0);
    }

    /** Two reeds of CHOICE in a duet, behind nothing and behind an answer: marches and clashes. */
    private static void duet(int one, int other, int marches, int clashes) {
        String deed = "duet " + one + " " + other + " 0 1 0;";
        ReedOracles x = year(CHOICE, deed);
        EDGES.due("marches by " + deed, x.state(0, 0, 1, 3), marches);
        EDGES.due("clashes by " + deed, x.state(0, 0, 1, 4), clashes);
        EDGES.due("deaths by " + deed, x.state(0, 0, 1, 2), 0);
        EDGES.due("coughs by ask by " + deed, x.state(0, 0, 1, 5), 0);
        EDGES.due("answered last by " + deed, x.state(0, 0, 1, 40), NONE);
        EDGES.due("note of the last ask by " + deed, x.state(0, 0, 1, 7), NONE);
        EDGES.due("cracked by " + deed, x.state(0, 0, 1, 1), 0);
    }

    private static void duets() {
        EDGES.of(10, "neither is a DEATH or a LIE: if both ANSWER the same, it is a MARCH, if one YES and one NO, a CLASH; how the QUESTION was ANSWERED stays; WET of both is 1 less, 0 at least.");
        duet(0, 4, 1, 0);
        duet(1, 5, 1, 0);
        duet(0, 1, 0, 1);
        duet(1, 0, 0, 1);
        duet(0, 2, 0, 0);
        duet(2, 1, 0, 0);
        duet(0, 3, 0, 0);
        duet(3, 1, 0, 0);
        duet(2, 3, 0, 0);
        ReedOracles waits = year("reed 0 1;reed 0 3;means 1 wait;means 3 wait;" + PLAIN, "duet 0 1 0 1 0;");
        EDGES.due("two waits march", waits.state(0, 0, 1, 3), 1);
        ReedOracles coughs = year("reed 0 1;reed 0 1;player 1;player 1;question 2 0;", "duet 0 1 0 1 0;");
        EDGES.due("two coughs answer nothing: no march", coughs.state(0, 0, 1, 3), 0);
        EDGES.due("two coughs, coughs by ask", coughs.state(0, 0, 1, 5), 0);
        ReedOracles lows = year("reed 0 0;reed 0 0;" + PLAIN, "duet 0 1 0 1 0;");
        EDGES.due("two notes 0, deaths", lows.state(0, 0, 1, 2), 0);
        EDGES.due("two notes 0, marches", lows.state(0, 0, 1, 3), 1);
        ReedOracles behind = year(CHOICE, "ask 0 0 0;duet 1 5 0 1 0;ask 4 1 0;");
        states("no lie behind a yes, nor behind the duet", behind, 1, 0, 0, 0, 0);
        states("how it was answered stays", behind, 40, -1, 1, 1, 1);
        states("the note of the last ask", behind, 7, -1, 1, 1, 1);
        ReedOracles wet = year("reed 2 1;reed 1 1;" + PLAIN, "duet 0 1 0 1 0;duet 1 0 0 1 0;duet 0 1 0 1 0;");
        states("wet of the first", wet, 10, 2, 1, 0, 0);
        states("wet of the second", wet, 11, 1, 0, 0, 0);
    }

    private static void duetsByWhom() {
        EDGES.of(10, "duet: two REEDS, both not CRACKED, two PLAYERS as above, the first REED by the first one");
        // Reed 0 is wet enough for player 1 alone, reed 1 for both: notes are 3 times the wet, the breath, and 4.
        String duchy = "reed 1 0;reed 3 0;player 1;player 4;question 4 0;";
        // Reed 1 by player 0: 14, reed 0 by player 1: 11: no and yes. Reed 0 by player 0 coughs.
        EDGES.due("the first by the first", year(duchy, "duet 1 0 0 1 0;").state(0, 0, 1, 4), 1);
        EDGES.due("told the other way round", year(duchy, "duet 0 1 1 0 0;").state(0, 0, 1, 4), 1);
        EDGES.due("the players swapped", year(duchy, "duet 0 1 0 1 0;").state(0, 0, 1, 4), 0);
        ReedOracles x = year(duchy, "duet 1 0 0 1 0;");
        EDGES.due("both have played, 0", x.state(0, 0, 1, 30), 1);
        EDGES.due("both have played, 1", x.state(0, 0, 1, 31), 1);
        String cracked = "reed 0 1;reed 0 2;reed 0 1;" + PLAIN;
        String lie = "ask 0 0 0;ask 1 0 0;";
        stop(cracked, lie + "duet 0 1 0 1 0;", 2);
        stop(cracked, lie + "duet 1 0 0 1 0;", 2);
        stop(cracked, lie + "duet 0 2 0 1 0;", 3);
        stop(cracked, lie + "duet 0 2 0 1 0;duet 0 2 0 1 0;", 3);
        stop(cracked, lie + "duet 0 2 1 0 0;duet 0 2 1 0 0;", 3);
    }

    private static void wets() {
        EDGES.of(10, "wet: WET of a REED that is not CRACKED is 3 more, 9 at most.");
        int[] want = {3, 4, 5, 6, 7, 8, 9, 9, 9, 9};
        for (int wet = 0; wet < 10; wet++) {
            states("wet", year("reed " + wet + " 0;reed 4 4;", "wet 0;"), 10, wet, want[wet]);
            states("wet of another one", year("reed " + wet + " 0;reed 4 4;", "wet 0;"), 11, 4, 4);
        }
        states("wet again and again", year("reed 0 0;", "wet 0;wet 0;wet 0;wet 0;night;wet 0;"), 10, 0, 3, 6, 9, 9, 8, 9);
        stop("reed 0 1;reed 0 2;" + PLAIN, "ask 0 0 0;ask 1 0 0;wet 0;wet 1;", 3);
    }

    private static void cuts() {
        EDGES.of(10, "cut: the KEY of such a one is 1 more (behind 7 comes 0).");
        for (int key = 0; key < 8; key++) {
            states("key", year("reed 0 " + key + ";reed 0 4;", "cut 0;"), 20, key, key == 7 ? 0 : key + 1);
            states("key of another one", year("reed 0 " + key + ";reed 0 4;", "cut 0;"), 21, 4, 4);
        }
        states("cut nine times", year("reed 0 6;", "cut 0;".repeat(9)), 20, 6, 7, 0, 1, 2, 3, 4, 5, 6, 7);
        states("the note behind it", year("reed 0 7;" + PLAIN, "cut 0;ask 0 0 0;"), 7, -1, -1, 0);
        stop("reed 0 1;reed 0 2;" + PLAIN, "ask 0 0 0;ask 1 0 0;cut 0;cut 1;", 3);
    }

    private static void colds() {
        EDGES.of(10, "cold: COLD is that.");
        states("cold", year("cold 5;", "cold 9;cold 0;cold 0;cold 1;"), 6, 5, 9, 0, 0, 1);
        states("notes", year("reed 0 0;" + PLAIN, "cold 9;ask 0 0 0;cold 1;ask 0 0 0;"), 7, -1, -1, 7, 7, 7);
        EDGES.due("it can be without reeds", year("", "cold 9;").stop(0, 0), 1);
    }

    private static void nights() {
        EDGES.of(10, "night (up to 99): WET of all REEDS is 1 less, 0 at least; all may play anew.");
        ReedOracles x = year("reed 2 0;reed 0 0;reed 9 0;" + PLAIN, "night;night;night;");
        states("nights", x, 0, 0, 1, 2, 3);
        states("wet 2", x, 10, 2, 1, 0, 0);
        states("wet 0", x, 11, 0, 0, 0, 0);
        states("wet 9", x, 12, 9, 8, 7, 6);
        EDGES.due("forty nights", year("reed 9 0;", "night;".repeat(40)).state(0, 0, 40, 0), 40);
        EDGES.due("dry behind forty nights", year("reed 9 0;", "night;".repeat(40)).state(0, 0, 40, 10), 0);
        EDGES.due("it can be without reeds", year("", "night;").state(0, 0, 1, 0), 1);
        ReedOracles cracked = year("reed 0 1;reed 5 3;" + PLAIN, "ask 0 0 0;ask 1 1 0;night;");
        // 15 and 3: note 2, a lie.
        states("cracked", cracked, 1, 0, 0, 2, 2);
        states("wet of a cracked one", cracked, 11, 5, 5, 4, 3);
        states("played by 0", cracked, 30, 0, 1, 1, 0);
        states("played by 1", cracked, 31, 0, 0, 1, 0);
        states("how it was answered stays", cracked, 40, -1, 1, 0, 0);
    }

    private static void cannotBe() {
        EDGES.of(9, "A DEED can't be, if there is no such REED, PLAYER, QUESTION, or it is not as said.");
        String duchy = "reed 0 1;reed 0 2;reed 0 1;player 7;player 7;player 7;question 1 0;question 1 0;";
        String[] missing = {"ask 3 0 0;", "ask 5 0 0;", "ask 0 3 0;", "ask 0 0 2;", "ask 0 0 7;", "wet 3;", "wet 5;", "cut 3;",
            "cut 5;", "duet 3 0 0 1 0;", "duet 0 3 0 1 0;", "duet 0 1 3 1 0;", "duet 0 1 0 3 0;", "duet 0 1 0 1 2;",
            "duet 0 1 0 1 7;"};
        for (String deed : missing) {
            stop(duchy, deed, 0);
            stop(duchy, "night;" + deed + "night;", 1);
        }
        String[] there = {"ask 2 2 1;", "wet 2;", "cut 2;", "duet 2 1 2 1 1;", "duet 1 2 1 2 1;"};
        for (String deed : there) {
            stop(duchy, deed, 1);
        }
        String[] cracked = {"ask 1 1 0;", "ask 1 1 1;", "wet 1;", "cut 1;", "duet 1 0 1 2 0;", "duet 0 1 1 2 0;"};
        for (String deed : cracked) {
            stop(duchy, "ask 0 0 0;ask 1 0 0;" + deed, 2);
            stop(duchy, "ask 0 0 0;ask 1 0 0;night;" + deed, 3);
        }
        String tired = "ask 0 0 0;".repeat(3);
        String[] byHim = {"ask 0 0 0;", "ask 2 0 1;", "duet 0 1 0 1 0;", "duet 0 1 1 0 0;"};
        for (String deed : byHim) {
            stop(duchy, tired + deed, 3);
            stop(duchy, tired + "night;" + deed, 5);
        }
        stop("", "ask 0 0 0;", 0);
        stop("player 1;question 1 0;", "ask 0 0 0;", 0);
        stop("reed 0 0;question 1 0;", "ask 0 0 0;", 0);
        stop("reed 0 0;player 1;", "ask 0 0 0;", 0);
    }

    private static void stops() {
        EDGES.of(9, "STOP: the first DEED that can't be, else how many there are.");
        stop("", "", 0);
        stop("", "wet 0;", 0);
        stop("", "night;wet 0;", 1);
        stop("", "wet 0;wet 0;night;", 0);
        stop("", "night;".repeat(40), 40);
        stop("", "night;".repeat(39) + "wet 0;", 39);
        stop("", "night;".repeat(38) + "wet 0;wet 0;", 38);
        EDGES.of(9, "STOP. NONE: there is none such (of either).");
        ReedOracles x = year("", "night;");
        for (int number : Edges.beside(1)) {
            EDGES.due("stop(" + number + ", 0)", x.stop(number, 0), NONE);
            EDGES.due("stop(0, " + number + ")", x.stop(0, number), NONE);
            EDGES.due("stop(" + number + ", " + number + ")", x.stop(number, number), NONE);
        }
        EDGES.due("stop(0, 0)", x.stop(0, 0), 1);
        EDGES.due("a second year", Bench.tell(x, 1, NONE, ""), 1);
        EDGES.due("stop(0, 1)", x.stop(0, 1), 0);
        EDGES.due("stop(1, 1)", x.stop(1, 1), NONE);
        EDGES.due("stop(0, 2)", x.stop(0, 2), NONE);
    }

    private static void statesUpToStop() {
        EDGES.of(10, "A STATE is behind the first n DEEDS, n up to STOP.");
        ReedOracles x = year("", "night;night;wet 0;night;");
        for (int n = -3; n < 45; n++) {
            EDGES.due("state(0, 0, " + n + ", 0)", x.state(0, 0, n, 0), n >= 0 && n <= 2 ? n : -2);
        }
        ReedOracles all = year("", "night;".repeat(40));
        EDGES.due("behind all 40", all.state(0, 0, 40, 0), 40);
        EDGES.due("behind 41", all.state(0, 0, 41, 0), -2);
        EDGES.due("behind none of none", year("", "").state(0, 0, 0, 0), 0);
        EDGES.due("behind one of none", year("", "").state(0, 0, 1, 0), -2);
        EDGES.due("stop 0", year("", "wet 0;").state(0, 0, 0, 0), 0);
        EDGES.due("behind the first that can't be", year("", "wet 0;").state(0, 0, 1, 0), -2);
    }

    private static void stateDetails() {
        EDGES.of(10, "Of a STATE, what 0: nights, 1: REEDS that are CRACKED (bits), 2: DEATHS, 3: MARCHES, 4: CLASHES, 5: COUGHS by ask, 6: COLD");
        // Reed 3 coughs thrice; reed 4 says yes, reed 5 no and reed 0 yes: two lies; the last note is 1.
        ReedOracles many = year(CHOICE, "ask 3 0 0;ask 3 0 1;ask 3 0 0;ask 4 1 0;ask 5 1 0;ask 0 1 0;night;cold 8;");
        int[] heads = {1, 1 + 32, 0, 0, 0, 3, 8, 1};
        for (int what = 0; what < heads.length; what++) {
            EDGES.due("state, what " + what, many.state(0, 0, 8, what), heads[what]);
        }
        ReedOracles two = year("reed 0 1;reed 0 1;reed 0 2;" + PLAIN,
            "duet 0 1 0 1 0;duet 0 2 0 1 0;duet 1 2 0 1 0;night;night;duet 0 2 0 1 0;cut 1;cut 1;cold 2;ask 2 0 0;");
        int[] others = {2, 0, 1, 1, 3, 0, 2, 0};
        for (int what = 0; what < others.length; what++) {
            EDGES.due("state of duets, what " + what, two.state(0, 0, 10, what), others[what]);
        }
        EDGES.of(10, "10 + r, 20 + r: WET, KEY of a REED, 30 + p: how often a PLAYER has played since the last night");
        EDGES.due("key of 1", two.state(0, 0, 10, 21), 3);
        EDGES.due("played by 0", two.state(0, 0, 10, 30), 2);
        EDGES.due("played by 1", two.state(0, 0, 10, 31), 1);
        EDGES.due("wet of the last of six", many.state(0, 0, 8, 15), 7);
        EDGES.due("key of the last of six", many.state(0, 0, 8, 25), 1);
        EDGES.of(10, "7: the NOTE of the last ask (NONE: it COUGHED, or none yet)");
        ReedOracles notes = year(CHOICE, "night;ask 0 0 0;ask 3 0 0;ask 2 0 0;night;");
        // Behind the first night: 24 and 6: 6, no; dry; 24, 3 and 6: 1, yes.
        states("notes", notes, 7, -1, -1, 6, -1, 1, 1);
        EDGES.of(10, "40 + q: how a QUESTION was ANSWERED last (NONE: not).");
        states("answers", notes, 40, -1, -1, 0, 0, 1, 1);
        states("answers of another one", notes, 41, -1, -1, -1, -1, -1, -1);
        EDGES.of(10, "-2: there is no such STATE, or for another what.");
        ReedOracles x = year("reed 1 1;".repeat(6) + "player 1;".repeat(4) + "question 1 0;".repeat(8), "night;");
        int[] most = {8, 6, 6, 4, 8};
        for (int what = 0; what < 80; what++) {
            boolean known = what < 50 && what % 10 < most[what / 10];
            EDGES.due("state(0, 0, 0, " + what + ") is known", x.state(0, 0, 0, what) != -2, known);
            EDGES.due("drawn(0, 0, 0, " + what + ") is known", x.drawn(0, 0, 0, what) != -2, known);
        }
        ReedOracles small = year("reed 1 1;player 1;question 1 0;", "night;");
        for (int what : new int[] {11, 15, 21, 25, 31, 33, 41, 47, -1, -2, -10, 100, Integer.MIN_VALUE, Integer.MAX_VALUE}) {
            EDGES.due("state, what " + what, small.state(0, 0, 0, what), -2);
        }
        for (int n : Edges.beside(2)) {
            EDGES.due("state(0, 0, " + n + ", 0)", small.state(0, 0, n, 0), -2);
        }
        for (int number : Edges.beside(1)) {
            EDGES.due("state(" + number + ", 0, 0, 0)", small.state(number, 0, 0, 0), -2);
            EDGES.due("state(0, " + number + ", 0, 0)", small.state(0, number, 0, 0), -2);
        }
    }

    /** What the document draws, by numbers that are longer than 32 bits. */
    private static final class Draws {
        private long x;

        Draws(int seed) {
            x = seed & 0xFFFFFFFFL;
        }

        int below(int n) {
            x = (x * 1103515245L + 12345L) & 0xFFFFFFFFL;
            return (int) ((x >> 16) % n);
        }
    }

    /** A seed whose draws below 8 are as told: a ask, w wet, k cut, c cold, n night, x no night, - any. */
    private static int seed(String kinds) {
        for (int seed = 1; seed < 100_000_000; seed++) {
            Draws draws = new Draws(seed);
            int i = 0;
            while (i < kinds.length() && matches(kinds.charAt(i), draws.below(8))) {
                i++;
            }
            if (i == kinds.length()) {
                return seed;
            }
        }
        throw new IllegalStateException("no seed draws " + kinds);
    }

    private static boolean matches(char kind, int number) {
        switch (kind) {
            case 'a': return number <= 3;
            case 'w': return number == 4;
            case 'k': return number == 5;
            case 'c': return number == 6;
            case 'n': return number == 7;
            case 'x': return number != 7;
            default: return true;
        }
    }

    private static int drawAt(int seed, int place, int n) {
        Draws draws = new Draws(seed);
        for (int i = 0; i < place; i++) {
            draws.below(8);
        }
        return draws.below(n);
    }

    private static void draws() {
        EDGES.of(21, "n times, 0 to 60: a number below 8: 7: night; 6: cold, a number below 10; 5: cut, 4: wet, a REED, below REEDS; else ask, a REED, a PLAYER, below PLAYERS, a QUESTION, below QUESTIONS; each, if it may.");
        String duchy = "reed 5 1;reed 2 6;reed 7 7;cold 3;player 7;player 7;player 7;question 1 0;question 1 0;question 1 0;";
        ReedOracles x = Bench.duchy(duchy);
        EDGES.due("night", x.drawn(0, seed("n"), 1, 0), 1);
        EDGES.due("night, wet", x.drawn(0, seed("n"), 1, 10), 4);
        int cold = seed("c");
        EDGES.due("cold", x.drawn(0, cold, 1, 6), drawAt(cold, 1, 10));
        int cut = seed("k");
        int wet = seed("w");
        int[] wets = {8, 5, 9};
        for (int r = 0; r < 3; r++) {
            boolean hit = drawAt(cut, 1, 3) == r;
            EDGES.due("cut, key of " + r, x.drawn(0, cut, 1, 20 + r), (x.duchy(0, 20 + r) + (hit ? 1 : 0)) % 8);
            boolean wetted = drawAt(wet, 1, 3) == r;
            EDGES.due("wet, wet of " + r, x.drawn(0, wet, 1, 10 + r), wetted ? wets[r] : x.duchy(0, 10 + r));
        }
        for (int kind = 0; kind < 4; kind++) {
            int ask = 0;
            while (drawAt(ask, 0, 8) != kind) {
                ask++;
            }
            for (int i = 0; i < 3; i++) {
                EDGES.due("ask, wet of " + i, x.drawn(0, ask, 1, 10 + i), x.duchy(0, 10 + i) - (drawAt(ask, 1, 3) == i ? 1 : 0));
                EDGES.due("ask, played by " + i, x.drawn(0, ask, 1, 30 + i), drawAt(ask, 2, 3) == i ? 1 : 0);
                EDGES.due("ask, answered " + i, x.drawn(0, ask, 1, 40 + i) != NONE, drawAt(ask, 3, 3) == i);
            }
        }
        EDGES.of(21, "DRAWN, n times, what as state(). -2: there is none such, another n, or for another what.");
        for (int n : Edges.beside(61)) {
            EDGES.due("drawn, n " + n, x.drawn(0, 1, n, 0), -2);
        }
        EDGES.due("drawn 0 times", x.drawn(0, 1, 0, 10), 5);
        EDGES.due("drawn 60 times is known", x.drawn(0, 1, 60, 0) >= 0, true);
        for (int number : Edges.beside(1)) {
            EDGES.due("drawn(" + number + ", ..)", x.drawn(number, 1, 1, 0), -2);
        }
        for (int what : new int[] {-1, 8, 9, 13, 16, 23, 33, 43, 48, 50, 60, Integer.MIN_VALUE, Integer.MAX_VALUE}) {
            EDGES.due("drawn, what " + what, x.drawn(0, 1, 1, what), -2);
        }
        EDGES.due("no marches", x.drawn(0, 1, 60, 3), 0);
        EDGES.due("no clashes", x.drawn(0, 1, 60, 4), 0);
    }

    private static void drawsOf32Bits() {
        EDGES.of(21, "DRAWN by a SEED, x; a number below n is drawn: x becomes x * 1103515245 + 12345 (of 32 bits), it is x shifted right by 16 without sign, remainder by n");
        ReedOracles bare = Bench.duchy("");
        int[] seeds = {0, 1, -1, 2, -2, 12345, Integer.MIN_VALUE, Integer.MAX_VALUE, 0x80000001, 0x7FFF0000, 0xFFFF0000};
        for (int seed : seeds) {
            int nights = 0;
            int cold = 0;
            Draws draws = new Draws(seed);
            for (int n = 0; n <= 20; n++) {
                EDGES.due("nights of seed " + seed + ", " + n, bare.drawn(0, seed, n, 0), nights);
                EDGES.due("cold of seed " + seed + ", " + n, bare.drawn(0, seed, n, 6), cold);
                int kind = draws.below(8);
                nights += kind == 7 ? 1 : 0;
                cold = kind == 6 ? draws.below(10) : cold;
            }
            bare = Bench.duchy("");
        }
    }

    private static void drawsThatMayNot() {
        EDGES.of(21, "each, if it may.");
        // One player asks four times: the fourth may not be, its numbers are drawn all the same.
        ReedOracles tired = Bench.duchy("reed 9 0;player 7;question 1 0;" + ALL_YES);
        int seed = seed("a---a---a---a---c-");
        EDGES.due("played", tired.drawn(0, seed, 4, 30), 3);
        EDGES.due("wet", tired.drawn(0, seed, 4, 10), 6);
        EDGES.due("cold at the fourth", tired.drawn(0, seed, 4, 6), 0);
        EDGES.due("cold behind it", tired.drawn(0, seed, 5, 6), drawAt(seed, 17, 10));
        // 27 and 24: yes and no: a lie. Then neither wet, nor cut, nor ask may be.
        ReedOracles cracked = Bench.duchy("reed 9 0;player 7;question 1 0;");
        int lie = seed("a---a---w-k-a---c-");
        EDGES.due("cracked", cracked.drawn(0, lie, 2, 1), 1);
        EDGES.due("wet", cracked.drawn(0, lie, 3, 10), 7);
        EDGES.due("cut", cracked.drawn(0, lie, 4, 20), 0);
        EDGES.due("ask", cracked.drawn(0, lie, 5, 30), 2);
        EDGES.due("cold behind them", cracked.drawn(0, lie, 6, 6), drawAt(lie, 17, 10));
    }

    private static void drawsWithout() {
        EDGES.of(21, "(Without REEDS 0 to 5, without PLAYERS or QUESTIONS 0 to 3 draw no more, nothing is done.)");
        ReedOracles noReeds = Bench.duchy("player 7;question 1 0;");
        ReedOracles noPlayers = Bench.duchy("reed 4 4;question 1 0;");
        ReedOracles noQuestions = Bench.duchy("reed 4 4;player 7;");
        ReedOracles all = Bench.duchy("reed 4 4;player 7;question 1 0;");
        int ask = seed("anxxx");
        EDGES.due("ask without reeds", noReeds.drawn(0, ask, 2, 0), 1);
        EDGES.due("ask without players", noPlayers.drawn(0, ask, 2, 0), 1);
        EDGES.due("ask without players, wet", noPlayers.drawn(0, ask, 1, 10), 4);
        EDGES.due("ask without questions", noQuestions.drawn(0, ask, 2, 0), 1);
        EDGES.due("ask without questions, played", noQuestions.drawn(0, ask, 1, 30), 0);
        EDGES.due("ask with all", all.drawn(0, ask, 2, 0), 0);
        EDGES.due("ask with all, played", all.drawn(0, ask, 1, 30), 1);
        for (String kind : new String[] {"w", "k"}) {
            int seed = seed(kind + "nx");
            EDGES.due(kind + " without reeds", noReeds.drawn(0, seed, 2, 0), 1);
            EDGES.due(kind + " with reeds", all.drawn(0, seed, 2, 0), 0);
            EDGES.due(kind + " without players", noPlayers.drawn(0, seed, 2, 0), 0);
            EDGES.due(kind + " without questions", noQuestions.drawn(0, seed, 2, 0), 0);
            EDGES.due(kind + " without players, wet", noPlayers.drawn(0, seed, 1, 10), kind.equals("w") ? 7 : 4);
            EDGES.due(kind + " without questions, key", noQuestions.drawn(0, seed, 1, 20), kind.equals("k") ? 5 : 4);
        }
        int night = seed("n");
        EDGES.due("night without reeds", noReeds.drawn(0, night, 1, 0), 1);
        int cold = seed("c");
        EDGES.due("cold without reeds", noReeds.drawn(0, cold, 1, 6), drawAt(cold, 1, 10));
    }

    private static void after(String duchy, String deeds, int what, int want) {
        EDGES.due("after, " + what + ", of " + deeds, year(duchy, deeds).after(0, 0, what), want);
    }

    private static void liars() {
        EDGES.of(33, "LIAR: the DEED (from 0 on) by which the first REED CRACKED (none)");
        after(CHOICE, "", 0, NONE);
        after(CHOICE, "ask 0 0 0;ask 4 0 0;", 0, NONE);
        after(CHOICE, "ask 0 0 0;ask 1 0 0;", 0, 1);
        after(CHOICE, "ask 0 0 0;ask 1 0 0;ask 4 0 0;", 0, 1);
        after(CHOICE, "cut 3;ask 0 0 0;cold 0;ask 2 0 0;ask 1 0 0;", 0, 4);
        after(CHOICE, "ask 0 0 0;duet 1 5 0 1 0;", 0, NONE);
        after("reed 0 1;reed 0 2;" + PLAIN, "night;".repeat(38) + "ask 0 0 0;ask 1 0 0;", 0, 39);
    }

    private static void famous() {
        EDGES.of(33, "FAMOUS: the QUESTION that was asked most often (by asks, duets), of several the least (none)");
        String duchy = CHOICE;
        after(duchy, "", 1, NONE);
        after(duchy, "night;wet 0;cut 0;cold 1;", 1, NONE);
        after(duchy, "ask 0 0 1;", 1, 1);
        after(duchy, "ask 0 0 1;ask 0 0 0;", 1, 0);
        after(duchy, "ask 0 0 0;ask 2 0 1;ask 2 0 1;", 1, 1);
        after(duchy, "ask 3 0 1;ask 3 0 1;ask 0 0 0;", 1, 1);
        after(duchy, "duet 0 1 0 1 1;", 1, 1);
        after(duchy, "duet 0 1 0 1 1;ask 2 0 0;", 1, 0);
        after(duchy, "duet 0 1 0 1 1;duet 0 1 0 1 1;ask 2 0 0;", 1, 1);
        after("reed 0 1;player 7;" + "question 1 0;".repeat(8), "ask 0 0 7;", 1, 7);
    }

    private static void hoarse() {
        EDGES.of(33, "HOARSE: the PLAYER who played most often in all, of several the least (none)");
        String duchy = "reed 0 1;reed 0 1;player 7;player 7;player 7;player 7;question 1 0;";
        after(duchy, "", 2, NONE);
        after(duchy, "night;wet 0;", 2, NONE);
        after(duchy, "ask 0 3 0;", 2, 3);
        after(duchy, "ask 0 3 0;ask 0 1 0;", 2, 1);
        after(duchy, "ask 0 3 0;ask 0 3 0;night;ask 0 1 0;", 2, 3);
        after(duchy, "ask 0 1 0;night;ask 0 1 0;night;ask 0 0 0;ask 0 0 0;", 2, 0);
        after(duchy, "duet 0 1 3 2 0;", 2, 2);
        after(duchy, "duet 0 1 3 2 0;ask 0 3 0;", 2, 3);
        after("reed 0 1;player 1;question 15 0;", "ask 0 0 0;", 2, 0);
    }

    private static void driest() {
        EDGES.of(33, "DRIEST: the REED that is least WET, of several the least (none: no REEDS).");
        after("", "", 3, NONE);
        after("player 1;question 1 0;", "night;", 3, NONE);
        after("reed 9 0;", "", 3, 0);
        after("reed 9 0;reed 8 0;reed 8 0;", "", 3, 1);
        after("reed 0 0;reed 0 0;", "", 3, 0);
        after("reed 0 0;reed 1 0;", "night;", 3, 0);
        after("reed 1 0;reed 0 0;", "", 3, 1);
        after("reed 1 0;reed 0 0;", "night;", 3, 0);
        after("reed 1 0;reed 0 0;", "wet 1;", 3, 0);
        after("reed 9 0;reed 9 0;reed 9 0;reed 9 0;reed 9 0;reed 8 0;", "", 3, 5);
        after("reed 0 1;reed 1 7;" + PLAIN, "wet 0;ask 0 0 0;ask 1 0 0;", 3, 1);
    }

    private static void upToStop() {
        EDGES.of(33, "Of a YEAR in a DUCHY, behind all DEEDS up to STOP");
        String duchy = "reed 2 6;reed 0 6;" + PLAIN;
        // Reed 0: 12, no, and 1 wet then; reed 1 is 3 wet. Reed 5 is not there. Behind it all would be otherwise.
        String idle = "ask 1 1 0;ask 0 1 1;cut 0;ask 0 1 1;ask 0 0 1;wet 0;wet 0;wet 0;";
        ReedOracles x = year(duchy, "ask 0 0 0;wet 1;ask 5 0 0;" + idle);
        EDGES.due("stop", x.stop(0, 0), 2);
        EDGES.due("liar", x.after(0, 0, 0), NONE);
        EDGES.due("famous", x.after(0, 0, 1), 0);
        EDGES.due("hoarse", x.after(0, 0, 2), 0);
        EDGES.due("driest", x.after(0, 0, 3), 0);
        ReedOracles on = year(duchy, "ask 0 0 0;wet 1;" + idle);
        int[] otherwise = {2, 1, 1, 1};
        for (int what = 0; what < 4; what++) {
            EDGES.due("if nothing stops it, what " + what, on.after(0, 0, what), otherwise[what]);
        }
        ReedOracles none = year(duchy, "ask 5 0 0;ask 0 1 1;");
        EDGES.due("famous behind nothing", none.after(0, 0, 1), NONE);
        EDGES.due("hoarse behind nothing", none.after(0, 0, 2), NONE);
        EDGES.due("driest behind nothing", none.after(0, 0, 3), 1);
    }

    private static void afterDetails() {
        EDGES.of(33, "What 0: LIAR, 1: FAMOUS, 2: HOARSE, 3: DRIEST (NONE of all: none).");
        ReedOracles bare = year("", "");
        ReedOracles lie = year("reed 5 1;reed 4 1;reed 4 1;" + PLAIN, "ask 0 1 1;ask 1 1 1;");
        // 16 and 13: notes 0 and 5: no, then yes.
        int[] want = {1, 1, 1, 1};
        for (int what = 0; what < 4; what++) {
            EDGES.due("after nothing, what " + what, bare.after(0, 0, what), NONE);
            EDGES.due("after a lie, what " + what, lie.after(0, 0, what), want[what]);
        }
        Bench.tell(lie, 1, NONE, "ask 0 0 0;wet 1;");
        Bench.tell(lie, 0, NONE, "player 7;");
        int[] second = {NONE, 0, 0, 0};
        for (int what = 0; what < 4; what++) {
            EDGES.due("after another year, what " + what, lie.after(0, 1, what), second[what]);
            EDGES.due("after the first year again, what " + what, lie.after(0, 0, what), want[what]);
            EDGES.due("after it in another duchy, what " + what, lie.after(1, 0, what), NONE);
        }
        EDGES.of(33, "-2: there is none such (of either), or for another what.");
        for (int what : Edges.beside(4)) {
            EDGES.due("after(0, 0, " + what + ")", lie.after(0, 0, what), -2);
        }
        for (int number : Edges.beside(2)) {
            for (int what = 0; what < 4; what++) {
                EDGES.due("after(" + number + ", 0, " + what + ")", lie.after(number, 0, what), -2);
                EDGES.due("after(0, " + number + ", " + what + ")", lie.after(0, number, what), -2);
            }
        }
    }
}
