import java.nio.charset.StandardCharsets;

/** Promises 39 and 40: images of all that is told. */
public final class ImagesTest {
    private static final int NONE = ReedOracles.NONE;
    private static final Bench BENCH = new Bench();

    public static void main(String[] args) {
        wrongOnes();
        allThatIsTold();
        tapeAndFault();
        otherImagesStay();
        BENCH.finish();
    }

    private static void wrongOnes() {
        ReedOracles x = new ReedOracles();
        int[] wrong = {-1, 3, Integer.MIN_VALUE, Integer.MAX_VALUE};
        for (int k : wrong) {
            BENCH.due("image " + k, x.image(k), false);
            BENCH.due("again " + k, x.again(k), false);
        }
        BENCH.due("image 2", x.image(2), true);
        BENCH.due("again 0", x.again(0), false);
        BENCH.due("again 1", x.again(1), false);
        BENCH.due("again 2", x.again(2), true);
    }

    private static ReedOracles filled() {
        ReedOracles x = Bench.duchy("reed 4 1;player 3;question 2 1;cold 5;means 3 wait;");
        Bench.tell(x, 0, NONE, "reed 1 1;");
        Bench.tell(x, 1, NONE, "ask 0 0 0;night;");
        Bench.tell(x, 1, NONE, "cut 3;");
        Bench.tell(x, 2, NONE, "heard 0 0 3;");
        Bench.tell(x, 2, NONE, "cough 3 7;cough 2 6;");
        return x;
    }

    private static void dueFilled(ReedOracles x) {
        int[] whats = {0, 1, 2, 3, 10, 20, 30, 40, 50, 63};
        long[] want = {1, 1, 1, 5, 4, 1, 3, 2, 1, 2};
        for (int i = 0; i < whats.length; i++) {
            BENCH.due("duchy 0, " + whats[i], x.duchy(0, whats[i]), want[i]);
        }
        BENCH.due("duchy 1", x.duchy(1, 10), 1);
        BENCH.due("year 0", x.deed(0, NONE, 0), 2);
        BENCH.due("year 0's deed", x.deed(0, 1, 0), 5);
        BENCH.due("year 1's deed", x.deed(1, 0, 1), 3);
        BENCH.due("log 0", x.fact(0, 0, 2), 3);
        BENCH.due("log 1", x.fact(1, NONE, 0), 2);
        BENCH.due("log 1's fact", x.fact(1, 1, 1), 6);
        for (int sort = 0; sort < 3; sort++) {
            BENCH.due("count", x.count(sort), 2);
        }
    }

    private static void allThatIsTold() {
        ReedOracles x = filled();
        BENCH.due("image", x.image(1), true);
        dueFilled(x);
        for (int sort = 0; sort < 3; sort++) {
            Bench.tell(x, sort, 0, "");
            Bench.tell(x, sort, 1, "");
        }
        Bench.tell(x, 0, 0, "reed 9 7;reed 8 7;player 9;question 9 3;cold 1;means 3 no;");
        Bench.tell(x, 1, 0, "wet 1;wet 2;wet 3;");
        Bench.tell(x, 2, 0, "cough 1 1;cough 1 1;cough 1 1;");
        BENCH.due("changed", x.duchy(0, 0), 2);
        BENCH.due("again", x.again(1), true);
        dueFilled(x);
        BENCH.due("twice", x.again(1), true);
        dueFilled(x);
        Bench.tell(x, 0, 0, "cold 2;");
        BENCH.due("the image is apart", x.again(1), true);
        dueFilled(x);

        ReedOracles empty = new ReedOracles();
        empty.image(0);
        Bench.tell(empty, 0, NONE, "reed 1 1;");
        Bench.tell(empty, 1, NONE, "");
        Bench.tell(empty, 2, NONE, "");
        empty.again(0);
        for (int sort = 0; sort < 3; sort++) {
            BENCH.due("an empty image's count", empty.count(sort), 0);
        }
        BENCH.due("no duchy then", empty.duchy(0, 0), NONE);
    }

    private static void tapeAndFault() {
        ReedOracles x = new ReedOracles();
        Bench.tell(x, 0, NONE, "cold 10;");
        Bench.feed(x, "reed 3 4;".getBytes(StandardCharsets.ISO_8859_1));
        x.image(0);
        BENCH.due("an image changes nothing", x.fault(0), 2);
        Bench.tell(x, 0, NONE, "x x x x x x x x x x");
        BENCH.due("another fault", x.fault(0), 1);
        BENCH.due("an empty tape", x.end(1), NONE);
        BENCH.due("again", x.again(0), true);
        BENCH.due("the fault", x.fault(0), 2);
        BENCH.due("its place", x.fault(1), 5);
        BENCH.due("the tape", x.end(10), NONE);
        BENCH.due("its text", x.text(0, NONE), 0);
        BENCH.due("told of it", x.duchy(0, 20), 4);
    }

    private static void otherImagesStay() {
        ReedOracles x = new ReedOracles();
        for (int k = 0; k < 3; k++) {
            Bench.tell(x, 0, k == 0 ? NONE : 0, "cold " + (k + 1) + ";");
            x.image(k);
        }
        int[] order = {0, 2, 1, 1, 0};
        for (int k : order) {
            BENCH.due("again " + k, x.again(k), true);
            BENCH.due("cold of image " + k, x.duchy(0, 3), k + 1);
        }
        Bench.tell(x, 0, 0, "cold 9;");
        x.image(1);
        BENCH.due("image 2 stays", x.again(2), true);
        BENCH.due("its cold", x.duchy(0, 3), 3);
        BENCH.due("image 1 is new", x.again(1), true);
        BENCH.due("its cold", x.duchy(0, 3), 9);
    }
}
