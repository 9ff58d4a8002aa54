import java.io.IOException;
import java.nio.charset.StandardCharsets;
import java.nio.file.Files;
import java.nio.file.Path;
import java.util.Arrays;
import java.util.TreeSet;

/**
 * Boundary cases. Each test names the promise and the sentence that it would find broken. The sentence must stand
 * in the document, under that promise or among the terms, so that no test outlives what it is for.
 */
final class Edges {
    private static final Path DOCUMENT = Path.of("../shared/DOC.md");
    private static final int PROMISES = 40;
    private static final int MOST_SHOWN = 60;

    private final TreeSet<Integer> wanted = new TreeSet<>();
    private final TreeSet<Integer> quoted = new TreeSet<>();
    private final String document;
    private String heading = "";
    private int sentences;
    private int answersBefore;
    private int answers;
    private int wrong;

    Edges(int... promises) {
        for (int promise : promises) {
            wanted.add(promise);
        }
        document = read();
    }

    private static String read() {
        try {
            return plain(Files.readString(DOCUMENT, StandardCharsets.UTF_8));
        } catch (IOException e) {
            // The answers can be tested without it.
            System.out.println("no " + DOCUMENT + ": the sentences are not looked up");
            return null;
        }
    }

    private static String plain(String text) {
        return text.replaceAll("\\s+", " ");
    }

    /** All that follows, up to the next call, tests this sentence. */
    void of(int promise, String sentence) {
        closeSentence();
        heading = "promise " + promise + ", \"" + sentence + "\": ";
        sentences++;
        answersBefore = answers;
        if (!wanted.contains(promise)) {
            fail("this test is for other promises");
        }
        boolean own = document == null || section("Promise " + promise + ":").contains(plain(sentence));
        if (own) {
            quoted.add(promise);
        } else if (!section("Terms").contains(plain(sentence))) {
            fail("the document does not say so");
        }
    }

    private String section(String title) {
        int from = document.indexOf("## " + title);
        int to = from < 0 ? -1 : document.indexOf(" ## ", from);
        if (from < 0) {
            return "";
        }
        return to < 0 ? document.substring(from) : document.substring(from, to);
    }

    private void closeSentence() {
        if (sentences > 0 && answers == answersBefore) {
            fail("no answer was looked at");
        }
    }

    private void fail(String why) {
        wrong++;
        if (wrong <= MOST_SHOWN) {
            System.out.println(heading + why);
        }
    }

    void due(String call, long got, long want) {
        answers++;
        if (got != want) {
            fail(call + " answered " + got + ", due is " + want);
        }
    }

    void due(String call, boolean got, boolean want) {
        due(call, got ? 1 : 0, want ? 1 : 0);
    }

    /** A call whose numbers are told as a row. */
    interface Call {
        long of(int[] numbers);
    }

    /** Each number in its turn is none of 0 .. its size - 1, the others being 0. */
    void missing(String name, long want, Call call, int... sizes) {
        for (int i = 0; i < sizes.length; i++) {
            for (int number : beside(sizes[i])) {
                int[] numbers = new int[sizes.length];
                numbers[i] = number;
                due(name + " of " + Arrays.toString(numbers), call.of(numbers), want);
            }
        }
    }

    void finish() {
        closeSentence();
        heading = "";
        for (int promise : wanted) {
            if (promise < 1 || promise > PROMISES || !quoted.contains(promise)) {
                fail("no sentence under promise " + promise + " is tested");
            }
        }
        System.out.println(sentences + " sentences, " + answers + " answers, " + wrong + " not as due");
        if (wrong != 0 || sentences == 0) {
            System.exit(1);
        }
    }

    /** Numbers next to 0 .. size - 1, and far from it. */
    static int[] beside(int size) {
        return new int[] {-1, size, size + 1, size + 100, -2, Integer.MIN_VALUE, Integer.MAX_VALUE};
    }

    static byte[] bytes(String text) {
        return text.getBytes(StandardCharsets.ISO_8859_1);
    }
}
