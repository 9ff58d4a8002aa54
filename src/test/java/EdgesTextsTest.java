/** Boundary cases of promises 1 to 6, 8, 18 and 38: the tape, texts and their faults, what was told. */
public final class EdgesTextsTest {
    private static final int NONE = ReedOracles.NONE;
    private static final int MIN = Integer.MIN_VALUE;
    private static final int MAX = Integer.MAX_VALUE;
    private static final Edges EDGES = new Edges(1, 2, 3, 4, 5, 6, 8, 18, 38);
    /** Of each sort one line of each form. */
    private static final String[][] LINES = {
        {"reed 9 7 ;", "player 9 ;", "question 15 3 ;", "cold 9 ;", "means 7 no ;", "means 0 yes ;", "means 3 wait ;"},
        {"ask 5 3 7 ;", "duet 5 4 3 2 7 ;", "wet 5 ;", "cut 5 ;", "cold 9 ;", "night ;"},
        {"heard 3 7 7 ;", "cough 3 7 ;"},
    };

    public static void main(String[] args) {
        newObject();
        feedBytes();
        feedFull();
        endOfTape();
        endRefused();
        textTaken();
        textFault();
        textRefused();
        mostTexts();
        faultOfLatest();
        tokens();
        blanks();
        grammars();
        placesOfFaults();
        longDigits();
        firstFault();
        wrongNumbers();
        wrongDuets();
        wrongNumbersTell();
        tooMany();
        later();
        duchyLimits();
        duchyDetails();
        yearLimits();
        deedDetails();
        logLimits();
        factDetails();
        counts();
        EDGES.finish();
    }

    private static void fault(int sort, String text, int fault, int place) {
        ReedOracles x = new ReedOracles();
        String call = "text(" + sort + ", NONE) of '" + text + "'";
        EDGES.due(call, Bench.tell(x, sort, NONE, text), fault == 0 ? 0 : NONE);
        EDGES.due("fault(0) of '" + text + "'", x.fault(0), fault);
        EDGES.due("fault(1) of '" + text + "'", x.fault(1), place);
    }

    private static void fine(int sort, String text) {
        fault(sort, text, 0, NONE);
    }

    private static void newObject() {
        EDGES.of(1, "No DUCHIES, YEARS, LOGS; no images.");
        ReedOracles x = new ReedOracles();
        for (int sort = 0; sort < 3; sort++) {
            EDGES.due("count", x.count(sort), 0);
            EDGES.due("text in the place of none", x.text(sort, 0), -2);
        }
        for (int k = 0; k < 3; k++) {
            EDGES.due("again(" + k + ")", x.again(k), false);
        }
        EDGES.due("duchy", x.duchy(0, 0), NONE);
        EDGES.due("deed", x.deed(0, NONE, 0), -2);
        EDGES.due("fact", x.fact(0, NONE, 0), -2);
        EDGES.due("stop", x.stop(0, 0), NONE);
        EDGES.due("fits", x.fits(0, 0, 0), -2);
        EDGES.due("drawn", x.drawn(0, 1, 0, 0), -2);
        ReedOracles other = Bench.duchy("reed 1 1;");
        other.image(0);
        EDGES.due("another object's duchy is not here", new ReedOracles().count(0), 0);
        EDGES.due("nor its image", new ReedOracles().again(0), false);
        EDGES.of(1, "The constants: `NONE = -1`: There is none.");
        EDGES.due("NONE", ReedOracles.NONE, -1);
    }

    private static void feedBytes() {
        EDGES.of(2, "twenty bytes come behind it, of each number the highest first: how many it has.");
        ReedOracles x = new ReedOracles();
        // reed 7 1;reed 2 3;re
        EDGES.due("feed of an empty tape", x.feed(0x72656564, 0x20372031, 0x3B726565, 0x64203220, 0x333B7265), 20);
        // ed 4 5;  and blanks
        EDGES.due("feed behind 20", x.feed(0x65642034, 0x20353B20, 0x20202020, 0x20202020, 0x20202020), 40);
        EDGES.due("text of both", x.text(0, NONE), 0);
        int[] numbers = {7, 2, 4, 1, 3, 5};
        for (int i = 0; i < 6; i++) {
            EDGES.due("number " + i, x.duchy(0, i < 3 ? 10 + i : 17 + i), numbers[i]);
        }
        EDGES.due("feed of the emptied tape", x.feed(0, 0, 0, 0, 0), 20);
        EDGES.due("end", x.end(3), 3);
        EDGES.due("feed behind 3", x.feed(0, 0, 0, 0, 0), 23);
        x.end(0);
        EDGES.due("four bytes of each of five numbers",
            x.feed(0x72656564, 0x20312032, 0x3B706C61, 0x79657220, 0x333B2020), 20);
        EDGES.due("text", x.text(0, NONE), 1);
        EDGES.due("wet", x.duchy(1, 10), 1);
        EDGES.due("key", x.duchy(1, 20), 2);
        EDGES.due("breath", x.duchy(1, 30), 3);
        for (int place = 0; place < 20; place++) {
            int[] words = {0x20202020, 0x20202020, 0x20202020, 0x20202020, 0x20202020};
            words[place / 4] = words[place / 4] & ~(255 << 24 - place % 4 * 8) | 128 + place << 24 - place % 4 * 8;
            x.feed(words[0], words[1], words[2], words[3], words[4]);
            EDGES.due("text with a strange byte", x.text(0, 0), NONE);
            EDGES.due("its place", x.fault(1), place);
        }
    }

    private static ReedOracles filled(int size) {
        ReedOracles x = new ReedOracles();
        for (int i = 0; i < 30; i++) {
            x.feed(0x20202020, 0x20202020, 0x20202020, 0x20202020, 0x20202020);
        }
        x.end(size);
        return x;
    }

    private static void feedFull() {
        EDGES.of(2, "NONE, and nothing comes, if there would be more than 600.");
        ReedOracles x = new ReedOracles();
        for (int size = 20; size <= 600; size += 20) {
            EDGES.due("feed", x.feed(size, -1, 0, 1, 2), size);
        }
        EDGES.due("feed of a full tape", x.feed(0, 0, 0, 0, 0), NONE);
        for (int size = 576; size <= 600; size++) {
            ReedOracles y = filled(size);
            EDGES.due("feed behind " + size, y.feed(-1, -1, -1, -1, -1), size <= 580 ? size + 20 : NONE);
            EDGES.due("not one more than it has", y.end((size <= 580 ? size + 20 : size) + 1), NONE);
            EDGES.due("text behind " + size, y.text(0, NONE), size <= 580 ? NONE : 0);
            EDGES.due("its fault", y.fault(1), size <= 580 ? size : NONE);
        }
        EDGES.of(2, "THE TAPE has at most 600 bytes.");
        ReedOracles full = new ReedOracles();
        EDGES.due("text of 600 bytes", Bench.tell(full, 0, NONE, "\n".repeat(5) + "cold 1;".repeat(84) + "cold 8;"), 0);
        EDGES.due("its last line", full.duchy(0, 3), 8);
        EDGES.due("text of 600 bytes, cut", Bench.tell(full, 0, NONE, "\n".repeat(6) + "cold 1;".repeat(84) + "cold 8"), NONE);
        EDGES.due("the end's place", full.fault(1), 600);
        EDGES.due("text of 600 bytes, the last of a word", Bench.tell(full, 0, NONE, " ".repeat(596) + "cold"), NONE);
        EDGES.due("the end's place", full.fault(1), 600);
        EDGES.due("text of 600 bytes, the last of a number", Bench.tell(full, 0, NONE, " ".repeat(594) + "cold 1"), NONE);
        EDGES.due("the end's place", full.fault(1), 600);
        EDGES.due("text of 600 bytes, the last one a blank", Bench.tell(full, 0, NONE, "cold 1;" + " ".repeat(593)), 1);
        EDGES.due("text of 600 bytes, the last one strange", Bench.tell(full, 0, 0, " ".repeat(599) + "?"), NONE);
        EDGES.due("its place", full.fault(1), 599);
    }

    private static void endOfTape() {
        EDGES.of(3, "The tape has its first n bytes alone: n.");
        ReedOracles x = new ReedOracles();
        EDGES.due("end(0) of none", x.end(0), 0);
        x.feed(0x636F6C64, 0x20373B3F, 0x3F3F3F3F, 0x3F3F3F3F, 0x3F3F3F3F);
        EDGES.due("end(20) of 20", x.end(20), 20);
        EDGES.due("end(8)", x.end(8), 8);
        EDGES.due("end(7)", x.end(7), 7);
        EDGES.due("end(7) of 7", x.end(7), 7);
        EDGES.due("text", x.text(0, NONE), 0);
        EDGES.due("cold", x.duchy(0, 3), 7);
        x.feed(0x636F6C64, 0x20373B3F, 0x3F3F3F3F, 0x3F3F3F3F, 0x3F3F3F3F);
        EDGES.due("end(0) of 20", x.end(0), 0);
        EDGES.due("text of nothing", x.text(0, 0), 0);
        EDGES.due("cold at first", x.duchy(0, 3), 0);
        x.feed(0x636F6C64, 0x20373B3F, 0x3F3F3F3F, 0x3F3F3F3F, 0x3F3F3F3F);
        x.end(5);
        x.feed(0x363B2020, 0x20202020, 0x20202020, 0x20202020, 0x20202020);
        EDGES.due("text, fed behind 5", x.text(0, 0), 0);
        EDGES.due("cold", x.duchy(0, 3), 6);
        // A word, a number and a blank are cut: what was behind is no part of them.
        cut(x, "cold 1;coldest", 11, 11);
        cut(x, "cold 12;", 6, 6);
        cut(x, "cold 1;", 6, 6);
        cut(x, "cold    1;", 6, 6);
        cut(x, "col", 2, 0);
    }

    private static void cut(ReedOracles x, String text, int n, int place) {
        x.end(0);
        Bench.feed(x, Edges.bytes(text));
        EDGES.due("end of " + text, x.end(n), n);
        EDGES.due("text of " + text + ", cut", x.text(0, 0), NONE);
        EDGES.due("place of " + text + ", cut", x.fault(1), place);
    }

    private static void endRefused() {
        EDGES.of(3, "NONE if it has not so many, or n is below 0.");
        ReedOracles x = new ReedOracles();
        for (int n : new int[] {1, 20, 600, 601, -1, MIN, MAX}) {
            EDGES.due("end(" + n + ") of none", x.end(n), NONE);
        }
        x.feed(0x636F6C64, 0x20373B20, 0x20202020, 0x20202020, 0x20202020);
        for (int n : new int[] {21, 22, 40, 600, 601, -1, -20, MIN, MAX}) {
            EDGES.due("end(" + n + ") of 20", x.end(n), NONE);
        }
        EDGES.due("the tape stays", x.end(20), 20);
        EDGES.due("end(8)", x.end(8), 8);
        EDGES.due("what was cut is gone", x.end(9), NONE);
        EDGES.due("text", x.text(0, NONE), 0);
        EDGES.due("cold", x.duchy(0, 3), 7);
    }

    private static void textTaken() {
        EDGES.of(4, "The tape is taken (and is empty then) as a text of a sort, a further one (at NONE), or in the place of one: its number.");
        for (int sort = 0; sort < 3; sort++) {
            ReedOracles x = new ReedOracles();
            for (int at : new int[] {NONE, NONE, 0, 1}) {
                String line = LINES[sort][0];
                int number = at == NONE ? x.count(sort) : at;
                EDGES.due("text(" + sort + ", " + at + ")", Bench.tell(x, sort, at, line), number);
                EDGES.due("the tape is empty then", x.end(1), NONE);
                EDGES.due("text of an empty tape", x.text(sort, number), number);
            }
        }
        ReedOracles x = Bench.duchy("cold 1;");
        EDGES.due("a further one", Bench.tell(x, 0, NONE, "cold 2;"), 1);
        EDGES.due("in the place of the first", Bench.tell(x, 0, 0, "cold 3;"), 0);
        EDGES.due("the first", x.duchy(0, 3), 3);
        EDGES.due("the second", x.duchy(1, 3), 2);
        EDGES.due("in the place of the second", Bench.tell(x, 0, 1, "cold 4;"), 1);
        EDGES.due("the first", x.duchy(0, 3), 3);
        EDGES.due("the second", x.duchy(1, 3), 4);
        EDGES.due("still two", x.count(0), 2);
        EDGES.due("no years", x.count(1), 0);
    }

    private static void textFault() {
        EDGES.of(4, "NONE: a FAULT.");
        String[] told = {"reed 1 2;", "cut 3;", "heard 1 2 3;"};
        for (int sort = 0; sort < 3; sort++) {
            ReedOracles x = new ReedOracles();
            EDGES.due("text of a fault", Bench.tell(x, sort, NONE, "?"), NONE);
            EDGES.due("none is told by it", x.count(sort), 0);
            EDGES.due("the tape is empty then", x.end(1), NONE);
            EDGES.due("a first one", Bench.tell(x, sort, NONE, told[sort]), 0);
            EDGES.due("in the place of it, a fault", Bench.tell(x, sort, 0, told[sort] + told[sort] + ";"), NONE);
            EDGES.due("a further one, a fault", Bench.tell(x, sort, NONE, told[sort] + told[sort] + ";"), NONE);
            EDGES.due("there is one", x.count(sort), 1);
            int kept = sort == 0 ? x.duchy(0, 0) : sort == 1 ? x.deed(0, NONE, 0) : x.fact(0, NONE, 0);
            EDGES.due("what stood there stays", kept, 1);
        }
    }

    private static void refused(ReedOracles x, int sort, int at) {
        String call = "text(" + sort + ", " + at + ")";
        int before = x.count(sort);
        EDGES.due(call, Bench.tell(x, sort, at, "reed 99 99;"), -2);
        EDGES.due("fault(0) behind " + call, x.fault(0), 0);
        EDGES.due("fault(1) behind " + call, x.fault(1), NONE);
        EDGES.due("the tape is empty behind " + call, x.end(1), NONE);
        EDGES.due("count behind " + call, x.count(sort), before);
    }

    private static void textRefused() {
        EDGES.of(4, "-2: there is none such, there are as many as may be, or no such sort (no text is read then, FAULT 0).");
        for (int sort = 0; sort < 3; sort++) {
            ReedOracles x = new ReedOracles();
            for (int many = 0; many <= 2; many++) {
                for (int at : new int[] {many, many + 1, 2, 3, -2, MIN, MAX}) {
                    refused(x, sort, at);
                }
                if (many < 2) {
                    EDGES.due("text", Bench.tell(x, sort, NONE, LINES[sort][0]), many);
                }
            }
            refused(x, sort, NONE);
            EDGES.due("a fault", Bench.tell(x, sort, 0, "?"), NONE);
            EDGES.due("fault 1", x.fault(0), 1);
            refused(x, sort, NONE);
        }
        ReedOracles x = Bench.duchy("cold 1;");
        for (int sort : Edges.beside(3)) {
            refused(x, sort, NONE);
            refused(x, sort, 0);
        }
    }

    private static void mostTexts() {
        EDGES.of(4, "DUCHIES, at most 2 (sort 0), YEARS, at most 2 (1), LOGS, at most 2 (2), from 0 on.");
        ReedOracles x = new ReedOracles();
        for (int sort = 0; sort < 3; sort++) {
            EDGES.due("the first of sort " + sort, Bench.tell(x, sort, NONE, LINES[sort][0]), 0);
            EDGES.due("the second of sort " + sort, Bench.tell(x, sort, NONE, LINES[sort][0]), 1);
            EDGES.due("a third of sort " + sort, Bench.tell(x, sort, NONE, LINES[sort][0]), -2);
            EDGES.due("there are two", x.count(sort), 2);
        }
        EDGES.due("duchy 1", x.duchy(1, 10), 9);
        EDGES.due("year 1", x.deed(1, 0, 1), 5);
        EDGES.due("log 1", x.fact(1, 0, 1), 7);
        EDGES.due("duchy 2", x.duchy(2, 10), NONE);
        EDGES.due("year 2", x.deed(2, 0, 1), -2);
        EDGES.due("log 2", x.fact(2, 0, 1), -2);
    }

    private static void faults(ReedOracles x, int fault, int place) {
        EDGES.due("fault(0)", x.fault(0), fault);
        EDGES.due("fault(1)", x.fault(1), place);
    }

    private static void faultOfLatest() {
        EDGES.of(5, "Of the latest text(), what 0: the FAULT, 0 without, 1: its place, NONE without.");
        ReedOracles x = new ReedOracles();
        faults(x, 0, NONE);
        Bench.tell(x, 0, NONE, "cold 10;");
        faults(x, 2, 5);
        x.feed(0, 0, 0, 0, 0);
        x.end(2);
        x.end(-1);
        faults(x, 2, 5);
        EDGES.due("the fault is of its own text", x.text(1, NONE), NONE);
        faults(x, 1, 0);
        Bench.tell(x, 2, NONE, "cough 0 0;");
        faults(x, 0, NONE);
        Bench.tell(x, 2, NONE, "cough 0 0;".repeat(9));
        faults(x, 3, 80);
        x.text(2, 7);
        faults(x, 0, NONE);
        Bench.tell(x, 0, NONE, "cold");
        faults(x, 1, 4);
        EDGES.of(5, "NONE for another what.");
        for (int what : Edges.beside(2)) {
            EDGES.due("fault(" + what + ")", x.fault(what), NONE);
        }
    }

    private static void tokens() {
        EDGES.of(5, "TOKENS, as long as they go, blanks (10, 32) between: words, rows of letters a .. z; NUMBERS, 1 or 2 digits; ; one byte.");
        fine(0, "cold1;");
        fine(0, "cold 1;cold 2;");
        fine(0, "means1no;");
        fine(0, "cold 0;cold 9;cold 00;cold 09;");
        fine(1, "night;night;");
        fault(0, "coldcold 1;", 1, 0);
        fault(0, "colda1;", 1, 0);
        fault(0, "coldz1;", 1, 0);
        fault(0, "co ld 1;", 1, 0);
        fault(0, "cold`1;", 1, 4);
        fault(0, "cold{1;", 1, 4);
        fault(0, "coldA1;", 1, 4);
        fault(0, "coldZ1;", 1, 4);
        fault(0, "COLD 1;", 1, 0);
        fault(0, "cold/1;", 1, 4);
        fault(0, "cold:1;", 1, 4);
        fault(0, "cold 1/;", 1, 6);
        fault(0, "cold 1:;", 1, 6);
        fault(0, "cold 0 1;", 1, 7);
        fault(0, "cold 1;;", 1, 7);
        fault(0, "cold ;1", 1, 5);
        fault(0, "cold 1<", 1, 6);
        fault(0, "means 1nono;", 1, 7);
        fault(1, "nights;", 1, 0);
        fault(1, "nigh t;", 1, 0);
    }

    private static void blanks() {
        EDGES.of(5, "blanks (10, 32) between");
        fine(0, " \n cold \n\n  1 \n ; \n ");
        fine(0, "\n");
        fine(0, " ");
        for (int sign = 0; sign < 256; sign++) {
            boolean letter = sign >= 'a' && sign <= 'z';
            boolean digit = sign >= '0' && sign <= '9';
            if (sign == 10 || sign == 32) {
                fine(0, "cold" + (char) sign + "1;");
            } else if (letter) {
                fault(0, "cold" + (char) sign + "1;", 1, 0);
            } else if (digit) {
                fault(0, "cold" + (char) sign + "1;", sign == '0' ? 0 : 2, sign == '0' ? NONE : 4);
            } else {
                fault(0, "cold" + (char) sign + "1;", 1, 4);
            }
            if (sign != 10 && sign != 32) {
                fault(0, "cold 1;" + (char) sign, 1, 7);
            }
        }
    }

    /** Every line whole, cut short behind each token, with a token too many, and in the text of another sort. */
    private static void grammars() {
        String[] sentences = {
            "A DUCHY's text: {('reed' NUMBER NUMBER | 'player' NUMBER | 'question' NUMBER NUMBER | 'cold' NUMBER | 'means' NUMBER ('no' | 'yes' | 'wait')) ';'} (reed: WET, KEY; question: DEPTH, KIND; means: a NOTE, 0 .. 7).",
            "A YEAR's text: {('ask' NUMBER NUMBER NUMBER | 'duet' NUMBER NUMBER NUMBER NUMBER NUMBER | ('wet' | 'cut' | 'cold') NUMBER | 'night') ';'} (ask: a REED, 0 .. 5, a PLAYER, 0 .. 3, a QUESTION, 0 .. 7; duet: two REEDS, two PLAYERS, a QUESTION; wet, cut: a REED; cold: 0 .. 9).",
            "A LOG's text: {('heard' NUMBER NUMBER NUMBER | 'cough' NUMBER NUMBER) ';'} (a PLAYER, a QUESTION, a NOTE).",
        };
        for (int sort = 0; sort < 3; sort++) {
            EDGES.of(4, sentences[sort]);
            fine(sort, "");
            fine(sort, String.join("", LINES[sort]));
            for (String line : LINES[sort]) {
                fine(sort, line);
                cutShort(sort, line);
                for (int other = 0; other < 3; other++) {
                    if (other != sort && !line.startsWith("cold")) {
                        fault(other, line, 1, 0);
                        fault(other, LINES[other][0] + line, 1, LINES[other][0].length());
                    }
                }
            }
        }
    }

    private static void cutShort(int sort, String line) {
        String[] tokens = line.split(" ");
        StringBuilder text = new StringBuilder();
        for (int i = 0; i + 1 < tokens.length; i++) {
            text.append(i == 0 ? "" : " ").append(tokens[i]);
            fault(sort, text.toString(), 1, text.length());
            fault(sort, text + " ", 1, text.length() + 1);
            if (i + 2 < tokens.length) {
                fault(sort, text + ";", 1, text.length());
                fault(sort, text + " x;", 1, text.length() + 1);
            } else {
                fault(sort, text + " 1;", 1, text.length() + 1);
                fault(sort, text + " no;", 1, text.length() + 1);
            }
        }
        for (int i = 0; i < tokens[0].length(); i++) {
            String rest = line.substring(tokens[0].length());
            fault(sort, tokens[0].substring(0, i) + rest, 1, i > 0 ? 0 : 1);
            fault(sort, tokens[0].substring(0, i) + "x" + tokens[0].substring(i + 1) + rest, 1, 0);
        }
    }

    private static void placesOfFaults() {
        EDGES.of(5, "FAULTS of all, with places (a token's first byte; the end's)");
        fault(0, "  colds 1;", 1, 2);
        fault(0, "cold 1;   10;", 1, 10);
        fault(0, "cold    10;", 2, 8);
        fault(0, "cold10;", 2, 4);
        fault(0, "\n\nplayer 0;", 2, 9);
        fault(0, "cold", 1, 4);
        fault(0, "cold   ", 1, 7);
        fault(0, "cold 1", 1, 6);
        fault(0, "cold 1 \n", 1, 8);
        fault(1, " ".repeat(3) + "night;".repeat(40) + "  night;", 3, 245);
        fault(0, "?", 1, 0);
        fault(0, " ".repeat(599) + ";", 1, 599);
    }

    private static void longDigits() {
        EDGES.of(5, "1 the first byte or token with which no text goes on (a longer row of digits is no token).");
        fine(0, "cold 01;");
        fault(0, "cold 001;", 1, 5);
        fault(0, "cold 123;", 1, 5);
        fault(0, "cold " + "1".repeat(500) + ";", 1, 5);
        fault(0, "reed 1 000;", 1, 7);
        fault(0, "reed 1 2 345;", 1, 9);
        fault(0, "345", 1, 0);
        fault(0, "cold 12", 1, 7);
        fault(0, "cold 99;player 100;", 1, 15);
        fault(0, "cold 1; ?", 1, 8);
        fault(0, "cold ? ?", 1, 5);
        fault(0, "cold cold ?", 1, 5);
        fault(1, "ask 0 0 100;", 1, 8);
        fault(2, "heard 000 0 0;", 1, 6);
    }

    private static void firstFault() {
        EDGES.of(5, "If there is none, the first by place, of one place the least");
        fault(0, "cold 10;cold", 1, 12);
        fault(0, "reed 0 0;".repeat(7) + "x", 1, 63);
        fault(0, "reed 10 8;cold 10;", 2, 5);
        fault(0, "reed 9 8;cold 10;", 2, 7);
        fault(0, "reed 9 7;cold 10;" + "player 9;".repeat(5), 2, 14);
        fault(0, "player 9;".repeat(5) + "cold 10;", 3, 36);
        fault(0, "player 9;".repeat(4) + "player 10;", 3, 36);
        fault(0, "player 10;" + "player 9;".repeat(4), 2, 7);
        fault(0, "reed 0 0;".repeat(7) + "player 9;".repeat(5), 3, 54);
        fault(1, "night;".repeat(40) + "wet 6;", 3, 240);
        fault(1, "wet 6;" + "night;".repeat(40), 2, 4);
        fault(2, "cough 0 0;".repeat(8) + "cough 4 0;", 3, 80);
        fault(2, "cough 0 0;".repeat(7) + "cough 4 0;" + "cough 0 0;", 2, 76);
    }

    private static void range(int sort, String before, String behind, int least, int most) {
        for (int number = 0; number < 100; number++) {
            boolean fits = number >= least && number <= most;
            fault(sort, before + number + behind, fits ? 0 : 2, fits ? NONE : before.length());
        }
    }

    private static void wrongNumbers() {
        EDGES.of(5, "2 a NUMBER that can't be (as above");
        range(0, "reed ", " 0;", 0, 9);
        range(0, "reed 0 ", ";", 0, 7);
        range(0, "player ", ";", 1, 9);
        fault(0, "player 00;", 2, 7);
        fine(0, "player 01;");
        range(0, "question ", " 0;", 1, 15);
        range(0, "question 1 ", ";", 0, 3);
        range(0, "cold ", ";", 0, 9);
        range(0, "means ", " yes;", 0, 7);
        range(1, "ask ", " 0 0;", 0, 5);
        range(1, "ask 0 ", " 0;", 0, 3);
        range(1, "ask 0 0 ", ";", 0, 7);
        fine(1, "duet 0 5 0 3 0;");
        fine(1, "duet 5 0 3 0 7;");
        fault(1, "duet 6 0 0 1 0;", 2, 5);
        fault(1, "duet 0 1 4 0 0;", 2, 9);
        range(1, "duet 0 ", " 0 1 0;", 1, 5);
        range(1, "duet 5 ", " 0 1 0;", 0, 4);
        range(1, "duet 0 1 0 ", " 0;", 1, 3);
        range(1, "duet 0 1 3 ", " 0;", 0, 2);
        range(1, "duet 0 1 0 1 ", ";", 0, 7);
        range(1, "wet ", ";", 0, 5);
        range(1, "cut ", ";", 0, 5);
        range(1, "cold ", ";", 0, 9);
        range(2, "heard ", " 0 0;", 0, 3);
        range(2, "heard 0 ", " 0;", 0, 7);
        range(2, "heard 0 0 ", ";", 0, 7);
        range(2, "cough ", " 0;", 0, 3);
        range(2, "cough 0 ", ";", 0, 7);
    }

    private static void wrongDuets() {
        EDGES.of(5, "of duet the second REED, the second PLAYER, if it is the first");
        for (int one = 0; one < 6; one++) {
            for (int other = 0; other < 6; other++) {
                fault(1, "duet " + one + " " + other + " 0 1 0;", one == other ? 2 : 0, one == other ? 7 : NONE);
            }
        }
        for (int one = 0; one < 4; one++) {
            for (int other = 0; other < 4; other++) {
                fault(1, "duet 0 1 " + one + " " + other + " 0;", one == other ? 2 : 0, one == other ? 11 : NONE);
            }
        }
        fault(1, "duet 2 02 0 1 0;", 2, 7);
        fault(1, "duet 3 1 1 3 3;", 0, NONE);
        fault(1, "duet 1 1 2 2 0;", 2, 7);
        fault(1, "duet 6 6 0 1 0;", 2, 5);
        fault(1, "duet 0 1 4 4 0;", 2, 9);
    }

    private static void wrongNumbersTell() {
        EDGES.of(5, "a line with such a NUMBER tells its REED, PLAYER, QUESTION, DEED, FACT all the same");
        // The wrong number comes first by its place, whatever its line tells; the line too many is never the first.
        fault(0, "reed 10 0;" + "reed 0 0;".repeat(6), 2, 5);
        fault(0, "player 0;" + "player 1;".repeat(4), 2, 7);
        fault(0, "question 0 0;" + "question 1 0;".repeat(8), 2, 9);
        fault(1, "wet 6;" + "night;".repeat(40), 2, 4);
        fault(2, "cough 4 0;" + "cough 0 0;".repeat(8), 2, 6);
        fault(0, "reed 0 0;".repeat(6) + "reed 10 0;", 3, 54);
    }

    private static void tooMany() {
        EDGES.of(5, "3 a 7th REED, a 5th PLAYER, a 9th QUESTION, a 41st DEED, a 9th FACT, at its first token.");
        fine(0, "reed 0 0;".repeat(6));
        fault(0, "reed 0 0;".repeat(7), 3, 54);
        fault(0, "reed 0 0;".repeat(6) + "cold 1;  reed 0 0;", 3, 63);
        fine(0, "player 1;".repeat(4));
        fault(0, "player 1;".repeat(5), 3, 36);
        fine(0, "question 1 0;".repeat(8));
        fault(0, "question 1 0;".repeat(9), 3, 104);
        fine(0, "reed 0 0;".repeat(6) + "player 1;".repeat(4) + "question 1 0;".repeat(8) + "cold 1;".repeat(20));
        fine(0, "cold 1;".repeat(50) + "means 0 no;".repeat(20));
        String[] deeds = {"ask 0 0 0;", "duet 0 1 0 1 0;", "wet 0;", "cut 0;", "cold 0;", "night;"};
        for (String deed : deeds) {
            fine(1, "night;".repeat(39) + deed);
            fault(1, "night;".repeat(40) + deed, 3, 240);
        }
        fine(2, "cough 0 0;".repeat(7) + "heard 0 0 0;");
        fault(2, "cough 0 0;".repeat(8) + "heard 0 0 0;", 3, 80);
        fault(2, "heard 0 0 0;".repeat(8) + "cough 0 0;", 3, 96);
    }

    private static void later() {
        EDGES.of(6, "Later ones strike (cold, means), but all others, which are further ones.");
        ReedOracles x = Bench.duchy("cold 3;cold 9;cold 4;means 2 yes;means 2 wait;means 1 wait;means 1 yes;");
        EDGES.due("cold", x.duchy(0, 3), 4);
        EDGES.due("note 2", x.duchy(0, 62), 2);
        EDGES.due("note 1", x.duchy(0, 61), 1);
        ReedOracles more = Bench.duchy("reed 1 2;reed 1 2;player 3;player 3;question 4 1;question 4 1;");
        EDGES.due("reeds", more.duchy(0, 0), 2);
        EDGES.due("players", more.duchy(0, 1), 2);
        EDGES.due("questions", more.duchy(0, 2), 2);
        EDGES.due("cold at first again, told back to 0", Bench.duchy("cold 9;cold 0;").duchy(0, 3), 0);
        ReedOracles year = new ReedOracles();
        Bench.tell(year, 1, NONE, "cold 1;cold 1;cold 2;");
        EDGES.due("a year's colds are deeds", year.deed(0, NONE, 0), 3);
        Bench.tell(year, 2, NONE, "cough 0 0;cough 0 0;");
        EDGES.due("facts", year.fact(0, NONE, 0), 2);
    }

    private static void duchyLimits() {
        EDGES.of(6, "A DUCHY has REEDS, at most 6, from 0 on: WET, 0 .. 9, KEY, 0 .. 7");
        for (int many = 0; many <= 6; many++) {
            ReedOracles x = Bench.duchy("reed 9 7;".repeat(many));
            EDGES.due("reeds", x.duchy(0, 0), many);
            for (int r = 0; r < 10; r++) {
                EDGES.due("wet of " + r, x.duchy(0, 10 + r), r < many ? 9 : NONE);
                EDGES.due("key of " + r, x.duchy(0, 20 + r), r < many ? 7 : NONE);
            }
        }
        EDGES.due("wet 0", Bench.duchy("reed 0 0;").duchy(0, 10), 0);
        EDGES.due("key 0", Bench.duchy("reed 0 0;").duchy(0, 20), 0);
        EDGES.of(6, "PLAYERS, at most 4, from 0 on: BREATH, 1 .. 9");
        for (int many = 0; many <= 4; many++) {
            ReedOracles x = Bench.duchy("player 1;".repeat(many));
            EDGES.due("players", x.duchy(0, 1), many);
            for (int p = 0; p < 10; p++) {
                EDGES.due("breath of " + p, x.duchy(0, 30 + p), p < many ? 1 : NONE);
            }
        }
        EDGES.due("breath 9", Bench.duchy("player 9;").duchy(0, 30), 9);
        EDGES.of(6, "QUESTIONS, at most 8, from 0 on: DEPTH, 1 .. 15, KIND, 0 .. 3");
        for (int many = 0; many <= 8; many++) {
            ReedOracles x = Bench.duchy("question 15 3;".repeat(many));
            EDGES.due("questions", x.duchy(0, 2), many);
            for (int q = 0; q < 10; q++) {
                EDGES.due("depth of " + q, x.duchy(0, 40 + q), q < many ? 15 : NONE);
                EDGES.due("kind of " + q, x.duchy(0, 50 + q), q < many ? 3 : NONE);
            }
        }
        EDGES.due("depth 1", Bench.duchy("question 1 0;").duchy(0, 40), 1);
        EDGES.due("kind 0", Bench.duchy("question 1 0;").duchy(0, 50), 0);
        EDGES.of(6, "COLD, 0 .. 9 (0 at first)");
        EDGES.due("cold at first", Bench.duchy("").duchy(0, 3), 0);
        EDGES.due("cold 0", Bench.duchy("cold 0;").duchy(0, 3), 0);
        EDGES.due("cold 9", Bench.duchy("cold 9;").duchy(0, 3), 9);
        EDGES.of(6, "a BOOK: each NOTE, 0 .. 7, MEANS 0 NO, 1 YES, 2 WAIT (at first even ones NO, odd ones YES).");
        for (int n = 0; n < 8; n++) {
            EDGES.due("at first " + n, Bench.duchy("").duchy(0, 60 + n), n % 2);
            String[] answers = {"no", "yes", "wait"};
            for (int answer = 0; answer < 3; answer++) {
                ReedOracles x = Bench.duchy("means " + n + " " + answers[answer] + ";");
                for (int other = 0; other < 8; other++) {
                    EDGES.due("means of " + other, x.duchy(0, 60 + other), other == n ? answer : other % 2);
                }
                Bench.tell(x, 0, NONE, "");
                EDGES.due("at first again in a further one", x.duchy(1, 60 + n), n % 2);
                Bench.tell(x, 0, 0, "");
                EDGES.due("at first again in its place", x.duchy(0, 60 + n), n % 2);
            }
        }
    }

    private static void duchyDetails() {
        EDGES.of(6, "Of a DUCHY, what 0: REEDS, 1: PLAYERS, 2: QUESTIONS, 3: COLD, 10 + r, 20 + r: WET, KEY of a REED, 30 + p: BREATH of a PLAYER, 40 + q, 50 + q: DEPTH, KIND of a QUESTION, 60 + n: what a NOTE MEANS.");
        ReedOracles all = Bench.duchy("reed 1 7;reed 2 6;reed 3 5;reed 4 4;reed 5 3;reed 6 2;player 6;player 7;player 8;player 9;"
            + "question 8 0;question 9 1;question 10 2;question 11 3;question 12 3;question 13 2;question 14 1;question 15 0;"
            + "cold 7;means 0 wait;means 7 wait;");
        int[][] told = {{6, 4, 8, 7}, {1, 2, 3, 4, 5, 6}, {7, 6, 5, 4, 3, 2}, {6, 7, 8, 9}, {8, 9, 10, 11, 12, 13, 14, 15},
            {0, 1, 2, 3, 3, 2, 1, 0}, {2, 1, 0, 1, 0, 1, 0, 2}};
        for (int what = 0; what < 70; what++) {
            if (what % 10 < told[what / 10].length) {
                EDGES.due("duchy(0, " + what + ")", all.duchy(0, what), told[what / 10][what % 10]);
            }
        }
        EDGES.of(6, "NONE: there is none such (of any), or for another what.");
        ReedOracles x = Bench.duchy("reed 1 2;".repeat(6) + "player 3;".repeat(4) + "question 4 1;".repeat(8) + "cold 5;");
        int[] most = {4, 6, 6, 4, 8, 8, 8};
        for (int what = 0; what < 100; what++) {
            boolean known = what < 70 && what % 10 < most[what / 10];
            EDGES.due("duchy(0, " + what + ") is known", x.duchy(0, what) != NONE, known);
        }
        for (int what : new int[] {-1, -2, -10, -60, 100, 1000, MIN, MAX}) {
            EDGES.due("duchy(0, " + what + ")", x.duchy(0, what), NONE);
        }
        for (int duchy : Edges.beside(1)) {
            EDGES.due("duchy(" + duchy + ", 0)", x.duchy(duchy, 0), NONE);
            EDGES.due("duchy(" + duchy + ", 60)", x.duchy(duchy, 60), NONE);
        }
        Bench.tell(x, 0, 0, "reed 1 1;player 1;question 1 1;");
        for (int what : new int[] {11, 15, 21, 25, 31, 33, 41, 47, 51, 57}) {
            EDGES.due("what was there before, " + what, x.duchy(0, what), NONE);
        }
        EDGES.due("the second reed of none", Bench.duchy("player 1;question 1 0;").duchy(0, 10), NONE);
    }

    private static void yearLimits() {
        EDGES.of(8, "A YEAR has DEEDS, at most 40, from 0 on.");
        for (int many : new int[] {0, 1, 39, 40}) {
            ReedOracles x = new ReedOracles();
            EDGES.due("text", Bench.tell(x, 1, NONE, "wet 5;".repeat(many)), 0);
            EDGES.due("how many", x.deed(0, NONE, 0), many);
            for (int k : new int[] {0, 1, 38, 39, 40}) {
                EDGES.due("deed " + k, x.deed(0, k, 1), k < many ? 5 : -2);
            }
        }
        ReedOracles over = new ReedOracles();
        EDGES.due("41 deeds", Bench.tell(over, 1, NONE, "wet 5;".repeat(41)), NONE);
    }

    private static void deedDetails() {
        EDGES.of(8, "How many DEEDS (k NONE, what 0); of DEED k, what 0: 0 ask, 1 duet, 2 wet, 3 cut, 4 cold, 5 night, 1 .. 5: its numbers (NONE without).");
        ReedOracles x = new ReedOracles();
        Bench.tell(x, 1, NONE, "duet 5 0 3 0 7;ask 5 3 7;duet 0 5 0 3 0;wet 5;cut 0;cold 9;night;cold 0;ask 0 0 0;");
        int[][] want = {{1, 5, 0, 3, 0, 7}, {0, 5, 3, 7, -1, -1}, {1, 0, 5, 0, 3, 0}, {2, 5, -1, -1, -1, -1},
            {3, 0, -1, -1, -1, -1}, {4, 9, -1, -1, -1, -1}, {5, -1, -1, -1, -1, -1}, {4, 0, -1, -1, -1, -1},
            {0, 0, 0, 0, -1, -1}};
        EDGES.due("how many", x.deed(0, NONE, 0), want.length);
        for (int k = 0; k < want.length; k++) {
            for (int what = 0; what < 6; what++) {
                EDGES.due("deed(0, " + k + ", " + what + ")", x.deed(0, k, what), want[k][what]);
            }
        }
        EDGES.of(8, "-2: there is none such (of either), or for another what.");
        for (int what : Edges.beside(6)) {
            EDGES.due("deed(0, 0, " + what + ")", x.deed(0, 0, what), -2);
            EDGES.due("deed(0, NONE, " + what + ")", x.deed(0, NONE, what), -2);
        }
        for (int what = 1; what < 6; what++) {
            EDGES.due("deed(0, NONE, " + what + ")", x.deed(0, NONE, what), -2);
        }
        for (int k : new int[] {want.length, want.length + 1, 40, -2, MIN, MAX}) {
            EDGES.due("deed(0, " + k + ", 0)", x.deed(0, k, 0), -2);
        }
        for (int year : Edges.beside(1)) {
            EDGES.due("deed(" + year + ", NONE, 0)", x.deed(year, NONE, 0), -2);
            EDGES.due("deed(" + year + ", 0, 0)", x.deed(year, 0, 0), -2);
        }
        Bench.tell(x, 1, 0, "night;");
        EDGES.due("what was there before", x.deed(0, 1, 0), -2);
        Bench.tell(x, 1, 0, "");
        EDGES.due("of no deeds", x.deed(0, 0, 0), -2);
        EDGES.due("how many", x.deed(0, NONE, 0), 0);
    }

    private static void logLimits() {
        EDGES.of(18, "A LOG has FACTS, at most 8, from 0 on: a PLAYER, 0 .. 3, asked a QUESTION, 0 .. 7: a NOTE, or a COUGH.");
        for (int many = 0; many <= 8; many++) {
            ReedOracles x = new ReedOracles();
            EDGES.due("text", Bench.tell(x, 2, NONE, "heard 3 7 7;".repeat(many)), 0);
            EDGES.due("how many", x.fact(0, NONE, 0), many);
            for (int k = 0; k < 10; k++) {
                EDGES.due("the player of " + k, x.fact(0, k, 0), k < many ? 3 : -2);
                EDGES.due("the question of " + k, x.fact(0, k, 1), k < many ? 7 : -2);
                EDGES.due("the note of " + k, x.fact(0, k, 2), k < many ? 7 : -2);
            }
        }
        ReedOracles over = new ReedOracles();
        EDGES.due("9 facts", Bench.tell(over, 2, NONE, "heard 3 7 7;".repeat(9)), NONE);
    }

    private static void factDetails() {
        EDGES.of(18, "How many FACTS (k NONE, what 0); of FACT k, what 0: the PLAYER, 1: the QUESTION, 2: the NOTE (NONE: a COUGH).");
        ReedOracles x = new ReedOracles();
        Bench.tell(x, 2, NONE, "heard 0 0 0;cough 3 7;heard 3 7 7;cough 0 0;");
        int[][] want = {{0, 0, 0}, {3, 7, -1}, {3, 7, 7}, {0, 0, -1}};
        EDGES.due("how many", x.fact(0, NONE, 0), 4);
        for (int k = 0; k < 4; k++) {
            for (int what = 0; what < 3; what++) {
                EDGES.due("fact(0, " + k + ", " + what + ")", x.fact(0, k, what), want[k][what]);
            }
        }
        EDGES.of(18, "-2: there is none such (of either), or for another what.");
        for (int what : Edges.beside(3)) {
            EDGES.due("fact(0, 0, " + what + ")", x.fact(0, 0, what), -2);
            EDGES.due("fact(0, NONE, " + what + ")", x.fact(0, NONE, what), -2);
        }
        EDGES.due("fact(0, NONE, 1)", x.fact(0, NONE, 1), -2);
        EDGES.due("fact(0, NONE, 2)", x.fact(0, NONE, 2), -2);
        for (int k : new int[] {4, 5, 8, -2, MIN, MAX}) {
            EDGES.due("fact(0, " + k + ", 0)", x.fact(0, k, 0), -2);
        }
        for (int log : Edges.beside(1)) {
            EDGES.due("fact(" + log + ", NONE, 0)", x.fact(log, NONE, 0), -2);
            EDGES.due("fact(" + log + ", 0, 0)", x.fact(log, 0, 0), -2);
        }
        Bench.tell(x, 2, 0, "cough 1 1;");
        EDGES.due("what was there before", x.fact(0, 1, 0), -2);
    }

    private static void counts() {
        EDGES.of(38, "How many there are of a sort.");
        ReedOracles x = new ReedOracles();
        for (int sort = 0; sort < 3; sort++) {
            EDGES.due("none", x.count(sort), 0);
            Bench.tell(x, sort, NONE, "");
            EDGES.due("one", x.count(sort), 1);
            Bench.tell(x, sort, 0, "");
            EDGES.due("in the place of one", x.count(sort), 1);
            Bench.tell(x, sort, NONE, "?");
            EDGES.due("behind a fault", x.count(sort), 1);
            Bench.tell(x, sort, NONE, "");
            EDGES.due("two", x.count(sort), 2);
            Bench.tell(x, sort, NONE, "");
            EDGES.due("no more", x.count(sort), 2);
        }
        EDGES.of(38, "-2 for another one.");
        for (int sort : Edges.beside(3)) {
            EDGES.due("count(" + sort + ")", x.count(sort), -2);
        }
    }
}
