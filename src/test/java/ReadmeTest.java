import java.io.IOException;
import java.lang.reflect.Method;
import java.lang.reflect.Modifier;
import java.nio.file.Files;
import java.nio.file.Path;
import java.util.TreeSet;
import java.util.regex.Matcher;
import java.util.regex.Pattern;

/** README's table of calls: each row answers what README says, and every call of the face has a row. */
public final class ReadmeTest {
    private static final Pattern ROW = Pattern.compile("\\| `(\\w+)\\((.*)\\)` \\| (\\S+) \\|.*");
    private static final Pattern TEXT = Pattern.compile("(\\S+), (\\S+), \"(.*)\"");

    public static void main(String[] args) throws Exception {
        Bench bench = new Bench();
        ReedOracles x = new ReedOracles();
        TreeSet<String> missing = face();
        for (String line : Files.readAllLines(Path.of("README.md"))) {
            Matcher row = ROW.matcher(line);
            if (row.matches()) {
                missing.remove(row.group(1));
                String call = row.group(1) + "(" + row.group(2) + ")";
                String got = String.valueOf(answer(x, row.group(1), row.group(2)));
                bench.due(call + ", which answers " + got + ", as README has it", got.equals(row.group(3)), true);
            }
        }
        bench.due("calls that README does not show " + missing, missing.size(), 0);
        bench.finish();
    }

    private static TreeSet<String> face() {
        TreeSet<String> names = new TreeSet<>();
        for (Method method : ReedOracles.class.getDeclaredMethods()) {
            if (Modifier.isPublic(method.getModifiers())) {
                names.add(method.getName());
            }
        }
        return names;
    }

    private static Object answer(ReedOracles x, String name, String given) throws Exception {
        if (name.equals("tell")) {
            Matcher text = TEXT.matcher(given);
            if (!text.matches()) {
                throw new IOException("no text in README's " + given);
            }
            return Bench.tell(x, (int) value(text.group(1)), (int) value(text.group(2)), text.group(3));
        }
        String[] words = given.split(", ");
        Object[] values = new Object[words.length];
        for (int i = 0; i < words.length; i++) {
            values[i] = value(words[i]);
        }
        for (Method method : ReedOracles.class.getDeclaredMethods()) {
            if (method.getName().equals(name) && Modifier.isPublic(method.getModifiers())) {
                return method.invoke(x, values);
            }
        }
        return "no such call";
    }

    private static Object value(String word) {
        switch (word) {
            case "NONE": return ReedOracles.NONE;
            case "true": return true;
            case "false": return false;
            default: return Integer.decode(word);
        }
    }
}
