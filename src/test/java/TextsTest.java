import java.nio.charset.StandardCharsets;
import java.util.ArrayList;
import java.util.List;
import java.util.Random;
import java.util.regex.Matcher;
import java.util.regex.Pattern;

/** Promises 1 to 6, 8, 18, 38: the tape, texts, faults, and what was told. */
public final class TextsTest {
    private static final int NONE = ReedOracles.NONE;
    private static final Bench BENCH = new Bench();

    public static void main(String[] args) {
        newObject();
        tape();
        places();
        takenUnread();
        duchies();
        deeds();
        facts();
        faults();
        limits();
        drawnTexts();
        BENCH.finish();
    }

    private static void newObject() {
        ReedOracles x = new ReedOracles();
        BENCH.due("NONE", ReedOracles.NONE, -1);
        for (int sort = 0; sort < 3; sort++) {
            BENCH.due("count of a new object", x.count(sort), 0);
        }
        BENCH.due("fault", x.fault(0), 0);
        BENCH.due("place", x.fault(1), NONE);
        BENCH.due("fault(2)", x.fault(2), NONE);
        BENCH.due("fault(-1)", x.fault(-1), NONE);
        BENCH.due("end(0)", x.end(0), 0);
        BENCH.due("end(1)", x.end(1), NONE);
        BENCH.due("duchy", x.duchy(0, 0), NONE);
        BENCH.due("deed", x.deed(0, NONE, 0), -2);
        BENCH.due("fact", x.fact(0, NONE, 0), -2);
        BENCH.due("lows", x.lows(0), NONE);
        for (int k = -1; k < 4; k++) {
            BENCH.due("again of a new object", x.again(k), false);
        }
        BENCH.due("count(-1)", x.count(-1), -2);
        BENCH.due("count(3)", x.count(3), -2);
    }

    private static void tape() {
        ReedOracles x = new ReedOracles();
        for (int size = 20; size <= 600; size += 20) {
            BENCH.due("feed", x.feed(-1, 0, 1, 2, 3), size);
        }
        BENCH.due("feed of a full tape", x.feed(1, 2, 3, 4, 5), NONE);
        BENCH.due("end(601)", x.end(601), NONE);
        BENCH.due("end(-1)", x.end(-1), NONE);
        BENCH.due("end(MIN)", x.end(Integer.MIN_VALUE), NONE);
        BENCH.due("end(600)", x.end(600), 600);
        BENCH.due("end(581)", x.end(581), 581);
        BENCH.due("feed past 600", x.feed(1, 2, 3, 4, 5), NONE);
        BENCH.due("end(582) of 581", x.end(582), NONE);
        BENCH.due("end(580)", x.end(580), 580);
        BENCH.due("feed up to 600", x.feed(1, 2, 3, 4, 5), 600);
        BENCH.due("end(3)", x.end(3), 3);
        BENCH.due("feed behind 3", x.feed(0, 0, 0, 0, 0), 23);
        BENCH.due("text", x.text(0, NONE), NONE);
        BENCH.due("place of byte 255", x.fault(1), 0);
        BENCH.due("the tape is empty then", x.end(1), NONE);
        Bench.feed(x, "cold 12;".getBytes(StandardCharsets.ISO_8859_1));
        BENCH.due("a number cut", x.end(6), 6);
        BENCH.due("its text", x.text(0, NONE), NONE);
        BENCH.due("its end", x.fault(1), 6);
        Bench.feed(x, "cold 1;colder".getBytes(StandardCharsets.ISO_8859_1));
        BENCH.due("a word cut", x.end(11), 11);
        BENCH.due("its text", x.text(0, NONE), NONE);
        BENCH.due("its end", x.fault(1), 11);
        // 'cold' ' 7;' with blanks: the highest byte of each number comes first.
        x.feed(0x636F6C64, 0x20373B20, 0x0A0A2020, 0x20202020, 0x20202020);
        BENCH.due("text of bytes in order", x.text(0, NONE), 0);
        BENCH.due("cold", x.duchy(0, 3), 7);
    }

    private static void places() {
        ReedOracles x = new ReedOracles();
        for (int sort = 0; sort < 3; sort++) {
            BENCH.due("in the place of none", x.text(sort, 0), -2);
            BENCH.due("first", x.text(sort, NONE), 0);
            BENCH.due("in the place of none", x.text(sort, 1), -2);
            BENCH.due("second", x.text(sort, NONE), 1);
            BENCH.due("third", x.text(sort, NONE), -2);
            BENCH.due("in the place of the second", x.text(sort, 1), 1);
            BENCH.due("in the place of the first", x.text(sort, 0), 0);
            BENCH.due("at 2", x.text(sort, 2), -2);
            BENCH.due("at -2", x.text(sort, -2), -2);
            BENCH.due("at MIN", x.text(sort, Integer.MIN_VALUE), -2);
            BENCH.due("count", x.count(sort), 2);
        }
        BENCH.due("no such sort", x.text(-1, NONE), -2);
        BENCH.due("no such sort", x.text(3, 0), -2);

        ReedOracles y = Bench.duchy("reed 1 2;");
        BENCH.due("a fault", Bench.tell(y, 0, 0, "reed 9 9;"), NONE);
        BENCH.due("fault", y.fault(0), 2);
        BENCH.due("what was told stays", y.duchy(0, 20), 2);
        BENCH.due("count stays", Bench.tell(y, 0, NONE, "x"), NONE);
        BENCH.due("count stays", y.count(0), 1);
        BENCH.due("fault 1", y.fault(0), 1);
        Bench.feed(y, "cold 4;".getBytes(StandardCharsets.ISO_8859_1));
        BENCH.due("none such", y.text(0, 1), -2);
        BENCH.due("fault of none read", y.fault(0), 0);
        BENCH.due("place of none read", y.fault(1), NONE);
        BENCH.due("the tape is empty all the same", y.end(1), NONE);
        BENCH.due("a further one", Bench.tell(y, 0, NONE, "cold 4;"), 1);
        BENCH.due("told of it", y.duchy(1, 3), 4);
        BENCH.due("the first stays", y.duchy(0, 3), 0);
        BENCH.due("in place of the first", Bench.tell(y, 0, 0, "player 9;"), 0);
        BENCH.due("reeds of it", y.duchy(0, 0), 0);
        BENCH.due("breath of it", y.duchy(0, 30), 9);
        BENCH.due("the second stays", y.duchy(1, 3), 4);
    }

    /** A text() that answers -2 empties the tape too, whatever is on it, and tells nothing. */
    private static void takenUnread() {
        for (String text : new String[] {"cold 3;", "night;", "cough 0 0;", "x", ""}) {
            for (int sort = 0; sort < 3; sort++) {
                ReedOracles x = new ReedOracles();
                unread(x, sort, 0, text);
                unread(x, sort, -2, text);
                unread(x, -1, NONE, text);
                unread(x, 3, 0, text);
                BENCH.due("a first one", Bench.tell(x, sort, NONE, ""), 0);
                unread(x, sort, 1, text);
                BENCH.due("a second one", Bench.tell(x, sort, NONE, ""), 1);
                unread(x, sort, NONE, text);
                unread(x, sort, 2, text);
                unread(x, Integer.MAX_VALUE, Integer.MIN_VALUE, text);
            }
        }
    }

    private static void unread(ReedOracles x, int sort, int at, String text) {
        int before = x.count(sort);
        x.end(0);
        Bench.feed(x, text.getBytes(StandardCharsets.ISO_8859_1));
        BENCH.due("unread", x.text(sort, at), -2);
        BENCH.due("no fault", x.fault(0), 0);
        BENCH.due("no place", x.fault(1), NONE);
        BENCH.due("an empty tape", x.end(1), NONE);
        BENCH.due("feed of an empty tape", x.feed(0, 0, 0, 0, 0), 20);
        BENCH.due("the same count", x.count(sort), before);
    }

    private static void duchies() {
        ReedOracles x = Bench.duchy("reed 9 7;reed 0 0;player 1;player 9;question 15 3;question 1 0;cold 9;means 0 wait;");
        BENCH.row("heads", all(x, 0, 5), 2, 2, 2, 9, -1);
        BENCH.row("wets", all(x, 9, 13), -1, 9, 0, -1);
        BENCH.row("keys", all(x, 19, 23), -1, 7, 0, -1);
        BENCH.row("breaths", all(x, 29, 33), -1, 1, 9, -1);
        BENCH.row("depths", all(x, 39, 43), -1, 15, 1, -1);
        BENCH.row("kinds", all(x, 49, 53), -1, 3, 0, -1);
        BENCH.row("the book", all(x, 59, 70), -1, 2, 1, 0, 1, 0, 1, 0, 1, -1, -1);
        BENCH.due("what -1", x.duchy(0, -1), NONE);
        BENCH.due("what MIN", x.duchy(0, Integer.MIN_VALUE), NONE);
        BENCH.due("what MAX", x.duchy(0, Integer.MAX_VALUE), NONE);
        BENCH.due("duchy 1", x.duchy(1, 0), NONE);
        BENCH.due("duchy -1", x.duchy(-1, 0), NONE);

        ReedOracles later = Bench.duchy("cold 3;means 2 yes;cold 5;means 2 wait;means 3 no;means 5 wait;means 5 yes;");
        BENCH.due("the later cold", later.duchy(0, 3), 5);
        BENCH.row("later meanings", all(later, 60, 68), 0, 1, 2, 0, 0, 1, 0, 1);

        Bench.tell(later, 0, 0, "cold 1;means 0 wait;means 1 no;means 7 no;reed 1 1;player 1;question 1 1;");
        Bench.tell(later, 0, 0, "");
        BENCH.row("nothing of the text before", all(later, 0, 4), 0, 0, 0, 0);
        BENCH.row("nor of its book", all(later, 60, 68), 0, 1, 0, 1, 0, 1, 0, 1);

        ReedOracles tight = Bench.duchy("reed 1 2;reed3\n4 ; player09;\n\nquestion 07 1;means 1no;cold00;  ");
        BENCH.row("blanks where they must be alone", all(tight, 0, 4), 2, 1, 1, 0);
        BENCH.row("numbers of two digits", new long[] {tight.duchy(0, 11), tight.duchy(0, 30), tight.duchy(0, 40)}, 3, 9, 7);
        BENCH.due("means 1no", tight.duchy(0, 61), 0);

        ReedOracles empty = Bench.duchy(" \n ");
        BENCH.row("an empty text", all(empty, 0, 4), 0, 0, 0, 0);
        BENCH.row("the book at first", all(empty, 60, 68), 0, 1, 0, 1, 0, 1, 0, 1);
    }

    private static long[] all(ReedOracles x, int from, int to) {
        long[] got = new long[to - from];
        for (int i = 0; i < got.length; i++) {
            got[i] = x.duchy(0, from + i);
        }
        return got;
    }

    private static void deeds() {
        ReedOracles x = new ReedOracles();
        BENCH.due("a year", Bench.tell(x, 1, NONE, "ask 5 3 7;duet 0 5 3 0 6;wet 4;cut 3;cold 9;night;"), 0);
        long[][] want = {{0, 5, 3, 7, -1, -1}, {1, 0, 5, 3, 0, 6}, {2, 4, -1, -1, -1, -1},
            {3, 3, -1, -1, -1, -1}, {4, 9, -1, -1, -1, -1}, {5, -1, -1, -1, -1, -1}};
        for (int k = 0; k < 6; k++) {
            for (int what = 0; what < 6; what++) {
                BENCH.due("deed " + k + " " + what, x.deed(0, k, what), want[k][what]);
            }
            BENCH.due("what 6", x.deed(0, k, 6), -2);
            BENCH.due("what -1", x.deed(0, k, -1), -2);
        }
        BENCH.due("how many", x.deed(0, NONE, 0), 6);
        BENCH.due("how many, another what", x.deed(0, NONE, 1), -2);
        BENCH.due("deed 6", x.deed(0, 6, 0), -2);
        BENCH.due("deed -2", x.deed(0, -2, 0), -2);
        BENCH.due("deed MAX", x.deed(0, Integer.MAX_VALUE, 0), -2);
        BENCH.due("year 1", x.deed(1, NONE, 0), -2);
        BENCH.due("year -1", x.deed(-1, 0, 0), -2);
    }

    private static void facts() {
        ReedOracles x = new ReedOracles();
        BENCH.due("a log", Bench.tell(x, 2, NONE, "heard 3 7 6;cough 2 1;heard 0 0 0;"), 0);
        long[][] want = {{3, 7, 6}, {2, 1, -1}, {0, 0, 0}};
        for (int k = 0; k < 3; k++) {
            for (int what = 0; what < 3; what++) {
                BENCH.due("fact " + k + " " + what, x.fact(0, k, what), want[k][what]);
            }
            BENCH.due("what 3", x.fact(0, k, 3), -2);
            BENCH.due("what -1", x.fact(0, k, -1), -2);
        }
        BENCH.due("how many", x.fact(0, NONE, 0), 3);
        BENCH.due("how many, another what", x.fact(0, NONE, 2), -2);
        BENCH.due("fact 3", x.fact(0, 3, 0), -2);
        BENCH.due("fact -2", x.fact(0, -2, 0), -2);
        BENCH.due("log 1", x.fact(1, NONE, 0), -2);
        BENCH.due("log -1", x.fact(-1, NONE, 0), -2);
    }

    private static void fault(int sort, String text, int fault, int place) {
        ReedOracles x = new ReedOracles();
        BENCH.due("text(" + sort + ") of " + text, Bench.tell(x, sort, NONE, text), fault == 0 ? 0 : NONE);
        BENCH.due("fault of " + text, x.fault(0), fault);
        BENCH.due("place of " + text, x.fault(1), place);
        BENCH.due("count behind " + text, x.count(sort), fault == 0 ? 1 : 0);
    }

    private static void faults() {
        fault(0, "", 0, NONE);
        fault(0, "reed", 1, 4);
        fault(0, "reed  ", 1, 6);
        fault(0, "reed 1 2", 1, 8);
        fault(0, "reed 1;", 1, 6);
        fault(0, "reed 1 2 3;", 1, 9);
        fault(0, "reed 123 4;", 1, 5);
        fault(0, "reed 1 2345;", 1, 7);
        fault(0, "reeds 1 2;", 1, 0);
        fault(0, "reeda 1 2;", 1, 0);
        fault(0, "reedz 1 2;", 1, 0);
        fault(0, "weed 1 2;", 1, 0);
        fault(0, "reef 1 2;", 1, 0);
        fault(0, "ree 1 2;", 1, 0);
        fault(0, "reed{1 2;", 1, 4);
        fault(0, "reed`1 2;", 1, 4);
        fault(0, "cold 1/;", 1, 6);
        fault(0, "cold 1:;", 1, 6);
        fault(0, " rEed 1 2;", 1, 1);
        fault(0, ";", 1, 0);
        fault(0, "cold 1;;", 1, 7);
        fault(0, "7;", 1, 0);
        fault(0, "Reed 1 2;", 1, 0);
        fault(0, "cold 1\t;", 1, 6);
        fault(0, "cold -1;", 1, 5);
        fault(0, "means 1 maybe;", 1, 8);
        fault(0, "means 1;", 1, 7);
        fault(0, "means no 1;", 1, 6);
        fault(0, "means 1 2;", 1, 8);
        fault(0, "means 1 no yes;", 1, 11);
        fault(0, "ask 0 0 0;", 1, 0);
        fault(0, "cold 1;night;", 1, 7);
        fault(0, "cold yes;", 1, 5);
        fault(0, "cold" + (char) 200, 1, 4);
        fault(1, "reed 1 2;", 1, 0);
        fault(1, "night 1;", 1, 6);
        fault(1, "duet 0 1 0 1;", 1, 12);
        fault(1, "nightnight;", 1, 0);
        fault(2, "heard 0 0;", 1, 9);
        fault(2, "cough 0 0 0;", 1, 10);
        fault(2, "ask 0 0 0;", 1, 0);
        fault(0, "reed 10 0;", 2, 5);
        fault(0, "reed 0 8;", 2, 7);
        fault(0, "player 0;", 2, 7);
        fault(0, "player 10;", 2, 7);
        fault(0, "question 0 0;", 2, 9);
        fault(0, "question 16 0;", 2, 9);
        fault(0, "question 1 4;", 2, 11);
        fault(0, "cold 10;", 2, 5);
        fault(0, "means 8 yes;", 2, 6);
        fault(1, "ask 6 0 0;", 2, 4);
        fault(1, "ask 0 4 0;", 2, 6);
        fault(1, "ask 0 0 8;", 2, 8);
        fault(1, "duet 6 1 0 1 0;", 2, 5);
        fault(1, "duet 0 6 0 1 0;", 2, 7);
        fault(1, "duet 2 2 0 1 0;", 2, 7);
        fault(1, "duet 2 02 0 1 0;", 2, 7);
        fault(1, "duet 0 1 4 1 0;", 2, 9);
        fault(1, "duet 0 1 0 4 0;", 2, 11);
        fault(1, "duet 0 1 1 1 0;", 2, 11);
        fault(1, "duet 0 1 0 1 8;", 2, 13);
        fault(1, "duet 0 1 1 0 1;", 0, NONE);
        fault(1, "wet 6;", 2, 4);
        fault(1, "cut 6;", 2, 4);
        fault(1, "cold 10;", 2, 5);
        fault(2, "heard 4 0 0;", 2, 6);
        fault(2, "heard 0 8 0;", 2, 8);
        fault(2, "heard 0 0 8;", 2, 10);
        fault(2, "cough 4 0;", 2, 6);
        fault(2, "cough 0 8;", 2, 8);
        fault(0, "reed 99 99;cold 77;", 2, 5);
        fault(0, "reed 99 99;cold 7", 1, 17);
        fault(0, "cold 99;?", 1, 8);
    }

    private static void limits() {
        fault(0, "reed 0 0;".repeat(6), 0, NONE);
        fault(0, "reed 0 0;".repeat(7), 3, 54);
        fault(0, "player 1;".repeat(4), 0, NONE);
        fault(0, "player 1;".repeat(5), 3, 36);
        fault(0, "question 1 0;".repeat(8), 0, NONE);
        fault(0, "question 1 0;".repeat(9), 3, 104);
        fault(0, "cold 1;".repeat(60) + "means 1 no;".repeat(14), 0, NONE);
        fault(1, "night;".repeat(40), 0, NONE);
        fault(1, "night;".repeat(41), 3, 240);
        fault(1, "wet 0;".repeat(40) + "ask 0 0 0;", 3, 240);
        fault(2, "cough 0 0;".repeat(8), 0, NONE);
        fault(2, "cough 0 0;".repeat(8) + "heard 0 0 0;", 3, 80);
        fault(0, "reed 0 0;".repeat(6) + "player 1;".repeat(4) + "question 1 0;".repeat(8), 0, NONE);
        fault(0, "reed 0 0;".repeat(6) + "reed 99 0;", 3, 54);
        fault(0, "reed 0 9;" + "reed 0 0;".repeat(6), 2, 7);
        fault(0, "reed 0 0;".repeat(7) + "reed 0 0", 1, 71);
        fault(0, "player 1;".repeat(5) + "reed 0 0;".repeat(7), 3, 36);
        fault(0, " ".repeat(600), 0, NONE);
        fault(0, "cold 1;".repeat(85) + "cold ", 1, 600);
        ReedOracles x = new ReedOracles();
        Bench.tell(x, 0, NONE, "reed 0 0;".repeat(7));
        BENCH.due("all is anew behind a fault", Bench.tell(x, 0, NONE, "reed 0 0;"), 0);
        BENCH.due("one reed", x.duchy(0, 0), 1);
    }

    private static final String[] GRAMMARS = {
        "(?:(?:reed # # |player # |question # # |cold # |means # (?:no|yes|wait) ); )*",
        "(?:(?:ask # # # |duet # # # # # |(?:wet|cut|cold) # |night ); )*",
        "(?:(?:heard # # # |cough # # ); )*",
    };
    private static final String[] WORDS = {"reed", "player", "question", "cold", "means", "no", "yes", "wait",
        "ask", "duet", "wet", "cut", "night", "heard", "cough", "ree", "x", ";", ";", ";", "0", "1", "2", "3", "7",
        "9", "12", "07", "123", " ", "\n", "\t", "A"};
    private static final String[][] LINES = {
        {"reed 4 1;", "player 3;", "question 5 2;", "cold 4;", "means 3 wait;", "reed 10 3;", "question 3 5;"},
        {"ask 1 2 3;", "duet 1 2 0 3 4;", "wet 3;", "cut 2;", "cold 1;", "night;", "night;", "duet 1 1 0 0 0;", "wet 8;"},
        {"heard 1 2 3;", "cough 3 4;", "cough 3 4;", "heard 1 2 9;"},
    };

    /** Texts of lines, with tokens thrown in now and then, against a grammar that is read by the Java library. */
    private static void drawnTexts() {
        Random random = new Random(7);
        for (int i = 0; i < 6000; i++) {
            int sort = i % 3;
            StringBuilder text = new StringBuilder();
            int lines = random.nextInt(random.nextInt(4) == 0 ? 45 : 12);
            int clean = random.nextInt(2);
            for (int line = 0; line < lines; line++) {
                int pick = LINES[sort].length - (random.nextInt(9) == 0 ? 0 : 1 + sort % 2);
                text.append(LINES[sort][random.nextInt(pick)]).append(random.nextInt(3) == 0 ? " " : "");
                if (clean == 1 && random.nextInt(12) == 0) {
                    text.insert(random.nextInt(text.length()), WORDS[random.nextInt(WORDS.length)]);
                }
            }
            if (text.length() > 600) {
                text.setLength(600);
            }
            int[] due = expected(sort, text.toString());
            fault(sort, text.toString(), due[0], due[1]);
        }
    }

    private static int[] expected(int sort, String text) {
        Pattern grammar = Pattern.compile(GRAMMARS[sort]);
        Matcher tokens = Pattern.compile("[a-z]+|[0-9]+|[^ \n]").matcher(text);
        StringBuilder seen = new StringBuilder();
        List<String> words = new ArrayList<>();
        List<Integer> at = new ArrayList<>();
        while (tokens.find()) {
            String token = tokens.group();
            boolean number = Character.isDigit(token.charAt(0));
            seen.append(number ? (token.length() > 2 ? "!" : "#") : token).append(' ');
            Matcher m = grammar.matcher(seen);
            if (!m.matches() && !m.hitEnd()) {
                return new int[] {1, tokens.start()};
            }
            words.add(token);
            at.add(tokens.start());
        }
        if (!grammar.matcher(seen).matches()) {
            return new int[] {1, text.length()};
        }
        return softFault(sort, words, at);
    }

    private static int[] softFault(int sort, List<String> words, List<Integer> at) {
        int[] counts = new int[3];
        int[] most = sort == 0 ? new int[] {6, 4, 8} : new int[] {sort == 1 ? 40 : 8, 0, 0};
        for (int i = 0; i < words.size(); i++) {
            String name = words.get(i);
            int which = sort > 0 ? 0 : List.of("reed", "player", "question").indexOf(name);
            if (which >= 0 && ++counts[which] > most[which]) {
                return new int[] {3, at.get(i)};
            }
            int before = -1;
            int place = 0;
            for (i++; !words.get(i).equals(";"); i++) {
                if (Character.isDigit(words.get(i).charAt(0))) {
                    int number = Integer.parseInt(words.get(i));
                    boolean same = name.equals("duet") && place % 2 == 1 && number == before;
                    if (same || !canBe(sort, name, place, number)) {
                        return new int[] {2, at.get(i)};
                    }
                    before = number;
                    place++;
                }
            }
        }
        return new int[] {0, NONE};
    }

    private static boolean canBe(int sort, String name, int place, int number) {
        String range = "";
        switch (name) {
            case "reed": range = "09 07"; break;
            case "player": range = "19"; break;
            case "question": range = "1F 03"; break;
            case "cold": range = "09"; break;
            case "means": range = "07"; break;
            case "ask": range = "05 03 07"; break;
            case "duet": range = "05 05 03 03 07"; break;
            case "wet": case "cut": range = "05"; break;
            default: range = "03 07 07";
        }
        String[] bounds = range.split(" ");
        int least = Character.digit(bounds[place].charAt(0), 16);
        return number >= least && number <= Character.digit(bounds[place].charAt(1), 16);
    }
}
