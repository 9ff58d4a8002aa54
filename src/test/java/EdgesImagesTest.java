/** Boundary cases of promises 39 and 40: images of all that is told. */
public final class EdgesImagesTest {
    private static final int NONE = ReedOracles.NONE;
    private static final Edges EDGES = new Edges(39, 40);
    private static final String IMAGE = "Image k (0 .. 2) is all that is told (the tape, the FAULT, too), as it is now: true; false for another k.";
    private static final String AGAIN = "All that is as image k has it (other images stay): true; false if there is none such.";

    public static void main(String[] args) {
        numbers();
        imageIsNow();
        imageStays();
        imageOfTape();
        imageOfFault();
        imageAnew();
        againOfNone();
        againOfCounts();
        otherImagesStay();
        againAndAgain();
        EDGES.finish();
    }

    private static ReedOracles cold(int cold) {
        return Bench.duchy("cold " + cold + ";");
    }

    private static void numbers() {
        EDGES.of(39, "false for another k.");
        ReedOracles x = cold(1);
        for (int k : Edges.beside(3)) {
            EDGES.due("image(" + k + ")", x.image(k), false);
            EDGES.due("again(" + k + ")", x.again(k), false);
        }
        for (int k = 0; k < 3; k++) {
            EDGES.due("none was made by that", x.again(k), false);
        }
        EDGES.due("all stays", x.duchy(0, 3), 1);
        for (int k = 0; k < 3; k++) {
            EDGES.due("image(" + k + ")", x.image(k), true);
            EDGES.due("again(" + k + ")", x.again(k), true);
        }
    }

    private static void imageIsNow() {
        EDGES.of(39, IMAGE);
        ReedOracles x = new ReedOracles();
        Bench.tell(x, 0, NONE, "reed 9 7;reed 1 2;player 3;question 4 1;cold 5;means 6 wait;");
        Bench.tell(x, 0, NONE, "cold 6;");
        Bench.tell(x, 1, NONE, "duet 0 1 2 3 4;night;");
        Bench.tell(x, 1, NONE, "wet 5;");
        Bench.tell(x, 2, NONE, "cough 1 2;heard 3 4 5;");
        Bench.tell(x, 2, NONE, "heard 0 1 2;");
        x.image(1);
        for (int sort = 0; sort < 3; sort++) {
            Bench.tell(x, sort, 0, "");
            Bench.tell(x, sort, 1, "");
        }
        Bench.tell(x, 0, 0, "reed 0 0;player 9;question 15 3;cold 9;means 6 yes;");
        Bench.tell(x, 1, 0, "cold 9;cold 9;cold 9;");
        Bench.tell(x, 2, 0, "heard 3 7 7;heard 3 7 7;heard 3 7 7;");
        EDGES.due("again", x.again(1), true);
        int[] whats = {0, 1, 2, 3, 10, 11, 20, 21, 30, 40, 50, 66};
        int[] want = {2, 1, 1, 5, 9, 1, 7, 2, 3, 4, 1, 2};
        for (int i = 0; i < whats.length; i++) {
            EDGES.due("duchy(0, " + whats[i] + ")", x.duchy(0, whats[i]), want[i]);
        }
        EDGES.due("duchy(1, 3)", x.duchy(1, 3), 6);
        EDGES.due("deeds of year 0", x.deed(0, NONE, 0), 2);
        int[] duet = {1, 0, 1, 2, 3, 4};
        for (int what = 0; what < 6; what++) {
            EDGES.due("deed(0, 0, " + what + ")", x.deed(0, 0, what), duet[what]);
        }
        EDGES.due("deed(0, 1, 0)", x.deed(0, 1, 0), 5);
        EDGES.due("deed(1, 0, 1)", x.deed(1, 0, 1), 5);
        EDGES.due("facts of log 0", x.fact(0, NONE, 0), 2);
        EDGES.due("fact(0, 0, 2)", x.fact(0, 0, 2), NONE);
        EDGES.due("fact(0, 1, 2)", x.fact(0, 1, 2), 5);
        EDGES.due("fact(1, 0, 1)", x.fact(1, 0, 1), 1);
    }

    private static void imageStays() {
        EDGES.of(39, "as it is now");
        ReedOracles x = cold(1);
        x.image(0);
        EDGES.due("an image changes nothing", x.duchy(0, 3), 1);
        Bench.tell(x, 0, 0, "cold 2;");
        EDGES.due("what is told behind it", x.duchy(0, 3), 2);
        x.again(0);
        Bench.tell(x, 0, 0, "cold 3;");
        Bench.tell(x, 0, NONE, "cold 4;");
        x.again(0);
        EDGES.due("it stays, though it was taken back before", x.duchy(0, 3), 1);
        EDGES.due("one duchy", x.count(0), 1);
    }

    private static void imageOfTape() {
        EDGES.of(39, "(the tape, the FAULT, too)");
        ReedOracles x = new ReedOracles();
        Bench.feed(x, Edges.bytes("cold 7;cold"));
        EDGES.due("image of a tape", x.image(0), true);
        EDGES.due("the tape stays", x.end(11), 11);
        EDGES.due("it has no more", x.end(12), NONE);
        x.end(0);
        Bench.feed(x, Edges.bytes("???????????????"));
        EDGES.due("again", x.again(0), true);
        EDGES.due("not so many", x.end(12), NONE);
        EDGES.due("so many", x.end(7), 7);
        EDGES.due("its bytes", x.text(0, NONE), 0);
        EDGES.due("cold", x.duchy(0, 3), 7);
        EDGES.due("again, the tape was taken", x.again(0), true);
        EDGES.due("no duchy", x.count(0), 0);
        EDGES.due("text of all", x.text(0, NONE), NONE);
        EDGES.due("its end", x.fault(1), 11);
        ReedOracles full = new ReedOracles();
        Bench.feed(full, Edges.bytes(" ".repeat(593) + "cold 8;"));
        full.image(2);
        full.end(0);
        full.again(2);
        EDGES.due("a full tape", full.feed(0, 0, 0, 0, 0), NONE);
        EDGES.due("its text", full.text(0, NONE), 0);
        EDGES.due("cold", full.duchy(0, 3), 8);
        ReedOracles empty = new ReedOracles();
        empty.image(0);
        empty.feed(0, 0, 0, 0, 0);
        empty.again(0);
        EDGES.due("an empty tape", empty.end(1), NONE);
    }

    private static void imageOfFault() {
        EDGES.of(39, "the FAULT, too");
        ReedOracles x = new ReedOracles();
        x.image(0);
        Bench.tell(x, 0, NONE, "cold 10;");
        x.image(1);
        Bench.tell(x, 1, NONE, "night;".repeat(41));
        x.image(2);
        int[] fault = {0, 2, 3};
        int[] place = {NONE, 5, 240};
        for (int k : new int[] {1, 0, 2, 0, 1}) {
            EDGES.due("again(" + k + ")", x.again(k), true);
            EDGES.due("fault of image " + k, x.fault(0), fault[k]);
            EDGES.due("place of image " + k, x.fault(1), place[k]);
        }
    }

    private static void imageAnew() {
        EDGES.of(39, IMAGE);
        ReedOracles x = cold(1);
        x.image(0);
        Bench.tell(x, 0, 0, "");
        Bench.tell(x, 0, NONE, "cold 2;");
        EDGES.due("in the place of an image", x.image(0), true);
        Bench.tell(x, 0, 0, "cold 3;");
        EDGES.due("again", x.again(0), true);
        EDGES.due("the later image", x.duchy(0, 3), 0);
        EDGES.due("two duchies", x.count(0), 2);
        EDGES.due("the second", x.duchy(1, 3), 2);
    }

    private static void againOfNone() {
        EDGES.of(40, "false if there is none such.");
        ReedOracles x = cold(4);
        for (int k = -1; k < 4; k++) {
            EDGES.due("again(" + k + ") of none", x.again(k), false);
        }
        EDGES.due("all stays", x.duchy(0, 3), 4);
        x.image(1);
        Bench.tell(x, 0, 0, "cold 5;");
        EDGES.due("again(0) beside image 1", x.again(0), false);
        EDGES.due("again(2) beside image 1", x.again(2), false);
        for (int k : Edges.beside(3)) {
            EDGES.due("again(" + k + ")", x.again(k), false);
        }
        EDGES.due("all stays", x.duchy(0, 3), 5);
        EDGES.due("again(1)", x.again(1), true);
        EDGES.due("the image", x.duchy(0, 3), 4);
    }

    private static void againOfCounts() {
        EDGES.of(40, AGAIN);
        ReedOracles x = new ReedOracles();
        x.image(0);
        for (int sort = 0; sort < 3; sort++) {
            Bench.tell(x, sort, NONE, "");
        }
        x.image(1);
        for (int sort = 0; sort < 3; sort++) {
            Bench.tell(x, sort, NONE, "");
        }
        x.image(2);
        for (int k : new int[] {0, 2, 1, 2, 0, 1}) {
            EDGES.due("again(" + k + ")", x.again(k), true);
            for (int sort = 0; sort < 3; sort++) {
                EDGES.due("count of image " + k, x.count(sort), k);
            }
            EDGES.due("the last duchy", x.duchy(k - 1, 0), k == 0 ? NONE : 0);
            EDGES.due("none behind it", x.duchy(k, 0), NONE);
        }
        EDGES.due("a further one behind image 1", Bench.tell(x, 0, NONE, "cold 1;"), 1);
    }

    private static void otherImagesStay() {
        EDGES.of(40, "(other images stay)");
        ReedOracles x = cold(9);
        for (int k = 0; k < 3; k++) {
            Bench.tell(x, 0, 0, "cold " + (k + 1) + ";");
            x.image(k);
        }
        for (int k : new int[] {0, 1, 2, 0, 2, 1, 1}) {
            EDGES.due("again(" + k + ")", x.again(k), true);
            EDGES.due("cold of image " + k, x.duchy(0, 3), k + 1);
            Bench.tell(x, 0, 0, "cold 8;");
        }
        x.again(0);
        EDGES.due("an image of what an image had", x.image(2), true);
        EDGES.due("again(1)", x.again(1), true);
        EDGES.due("image 1 stays", x.duchy(0, 3), 2);
        EDGES.due("again(2)", x.again(2), true);
        EDGES.due("image 2 is as image 0", x.duchy(0, 3), 1);
        Bench.tell(x, 0, 0, "cold 7;");
        EDGES.due("again(0)", x.again(0), true);
        EDGES.due("image 0 stays", x.duchy(0, 3), 1);
    }

    private static void againAndAgain() {
        EDGES.of(40, AGAIN);
        ReedOracles x = Bench.duchyAnd("reed 9 0;player 7;question 1 0;", 1, "ask 0 0 0;");
        x.image(0);
        for (int i = 0; i < 3; i++) {
            EDGES.due("again", x.again(0), true);
            EDGES.due("a year's state", x.state(0, 0, 1, 7), 3);
            EDGES.due("lows", x.lows(0), 0);
            Bench.tell(x, 0, 0, "reed 0 0;player 7;question 1 0;");
            Bench.tell(x, 1, 0, "");
            EDGES.due("lows of what is told anew", x.lows(0), 1);
            EDGES.due("stop of what is told anew", x.stop(0, 0), 0);
        }
    }
}
