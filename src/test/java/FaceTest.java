import java.io.IOException;
import java.lang.reflect.Constructor;
import java.lang.reflect.Field;
import java.lang.reflect.Method;
import java.lang.reflect.Modifier;
import java.nio.file.Files;
import java.nio.file.Path;
import java.util.ArrayList;
import java.util.Arrays;
import java.util.List;
import java.util.Random;
import java.util.TreeSet;
import java.util.regex.Matcher;
import java.util.regex.Pattern;

/** The public face, some rules of LANGUAGE.md, and that no call throws, whatever it is given. */
public final class FaceTest {
    private static final Bench BENCH = new Bench();
    private static final String[] FACE = {
        "int feed int int int int int", "int end int", "int text int int", "int fault int", "int duchy int int",
        "int note int int int int boolean", "int deed int int int", "int stop int int", "int state int int int int",
        "int ready int int int int int int", "int favour int int int int", "int dare int int int boolean",
        "int alike int int int", "int lows int", "int told int int int", "int weather int int int int int",
        "int fact int int int", "int fits int int int", "long left int int int int boolean",
        "int drawn int int int int", "int chant int int int int int", "int ripe int int int int int",
        "int deepest int int int", "int program int int int int", "int edit int int int int",
        "int choir int int boolean", "int peace int int boolean", "int marched int int", "int chords int int int",
        "int twins int int", "int fairest int int boolean", "int after int int int",
        "long odds int int int int int boolean", "int owns int int boolean", "int wets int int",
        "int clearest int int boolean", "int count int", "boolean image int", "boolean again int",
    };

    public static void main(String[] args) throws Exception {
        face();
        insides();
        words();
        noCallThrows();
        BENCH.finish();
    }

    private static void face() {
        TreeSet<String> got = new TreeSet<>();
        TreeSet<String> names = new TreeSet<>();
        for (Method method : ReedOracles.class.getDeclaredMethods()) {
            if (!Modifier.isPrivate(method.getModifiers())) {
                StringBuilder line = new StringBuilder(method.getReturnType() + " " + method.getName());
                for (Class<?> type : method.getParameterTypes()) {
                    line.append(' ').append(type);
                }
                got.add(line.toString());
                names.add(method.getName());
                BENCH.due(method + " is public alone", method.getModifiers(), Modifier.PUBLIC);
            }
        }
        TreeSet<String> want = new TreeSet<>(Arrays.asList(FACE));
        BENCH.due("the methods of the face " + got, got.equals(want), true);
        for (Method method : ReedOracles.class.getDeclaredMethods()) {
            boolean hides = Modifier.isPrivate(method.getModifiers()) && names.contains(method.getName());
            BENCH.due("a private " + method.getName(), hides, false);
        }
        BENCH.due("public and final", ReedOracles.class.getModifiers(), Modifier.PUBLIC | Modifier.FINAL);
        Constructor<?>[] constructors = ReedOracles.class.getDeclaredConstructors();
        BENCH.due("constructors", constructors.length, 1);
        BENCH.due("its parameters", constructors[0].getParameterCount(), 0);
        BENCH.due("it is public", constructors[0].getModifiers(), Modifier.PUBLIC);
        for (Field field : ReedOracles.class.getDeclaredFields()) {
            boolean open = !Modifier.isPrivate(field.getModifiers());
            BENCH.due(field.getName() + " is to be seen", open, field.getName().equals("NONE"));
        }
    }

    private static void insides() {
        Class<?>[] inside = ReedOracles.class.getDeclaredClasses();
        BENCH.due("classes in all, at most 12", inside.length + 1 <= 12, true);
        for (Class<?> one : inside) {
            BENCH.due(one + " is static", Modifier.isStatic(one.getModifiers()), true);
            BENCH.due(one + " is hidden", Modifier.isPublic(one.getModifiers()) || Modifier.isProtected(one.getModifiers()), false);
            int fields = 0;
            for (Field field : one.getDeclaredFields()) {
                boolean fixed = Modifier.isStatic(field.getModifiers());
                fields += fixed ? 0 : 1;
                BENCH.due(field + " is final", !fixed || Modifier.isFinal(field.getModifiers()), true);
            }
            BENCH.due(one + " has some twenty fields", fields <= 20, true);
            for (Method method : one.getDeclaredMethods()) {
                BENCH.due(method + " takes at most seven", method.getParameterCount() <= 7, true);
                boolean hides = Arrays.stream(FACE).anyMatch(line -> line.split(" ")[1].equals(method.getName()));
                BENCH.due(method + " has a name of the face", hides, false);
            }
        }
    }

    /** What the rules forbid by name. */
    private static void words() throws IOException {
        String source = Files.readString(Path.of("src/main/java/ReedOracles.java"));
        String code = source.replaceAll("(?s)/\\*.*?\\*/", "").replaceAll("//[^\n]*", "");
        String[] forbidden = {"throw", "throws", "try", "catch", "synchronized", "assert", "record", "enum", "package",
            "Exact", "Exception", "Random", "System\\.(?!arraycopy)", "->", "::", "@", "float", "double", "hashCode",
            "toString", "volatile", "native", "var"};
        for (String word : forbidden) {
            String bounded = Character.isLetter(word.charAt(0)) && !word.contains("\\") ? "\\b" + word + "\\b" : word;
            BENCH.due(word + " in the code", Pattern.compile(bounded).matcher(code).find(), false);
        }
        Matcher imports = Pattern.compile("import ([^;]*);").matcher(code);
        while (imports.find()) {
            BENCH.due("import of " + imports.group(1), imports.group(1).equals("java.util.Arrays"), true);
        }
        Matcher loops = Pattern.compile("for \\((.*?);(.*?);(.*?)\\) \\{").matcher(code);
        int seen = 0;
        while (loops.find()) {
            seen++;
            BENCH.due("a bound in " + loops.group(), loops.group(2).matches(".*(<|>).*"), true);
        }
        BENCH.due("loops were seen", seen > 50, true);
    }

    private static void noCallThrows() throws Exception {
        Random random = new Random(3);
        List<Method> methods = new ArrayList<>();
        for (Method method : ReedOracles.class.getDeclaredMethods()) {
            if (Modifier.isPublic(method.getModifiers())) {
                methods.add(method);
            }
        }
        methods.sort((a, b) -> a.getName().compareTo(b.getName()));
        String[] duchies = {"", "reed 0 0;", "player 1;", "question 15 3;", "reed 9 7;player 1;", "reed 9 7;question 1 0;",
            "reed 9 7;".repeat(6) + "player 9;".repeat(4) + "question 15 3;".repeat(8) + "cold 9;means 7 wait;",
            "reed 0 7;reed 3 2;player 5;player 2;question 3 1;question 9 2;question 5 0;"};
        String[] years = {"", "ask 5 3 7;", "ask 0 0 0;duet 0 1 0 1 0;night;cut 1;wet 0;cold 9;", "night;".repeat(40)};
        String[] logs = {"", "heard 3 7 7;", "cough 0 0;".repeat(8), "heard 0 0 1;"};
        for (int round = 0; round < 600; round++) {
            ReedOracles x = new ReedOracles();
            Bench.tell(x, 0, ReedOracles.NONE, duchies[random.nextInt(duchies.length)]);
            Bench.tell(x, 0, ReedOracles.NONE, duchies[random.nextInt(duchies.length)]);
            Bench.tell(x, 1, ReedOracles.NONE, years[random.nextInt(years.length)]);
            Bench.tell(x, 2, ReedOracles.NONE, logs[random.nextInt(logs.length)]);
            for (int call = 0; call < 400; call++) {
                Method method = methods.get(random.nextInt(methods.size()));
                Object[] given = drawn(random, method);
                Object first = method.invoke(x, given);
                BENCH.due("an answer of " + method.getName(), first != null, true);
            }
        }
    }

    private static Object[] drawn(Random random, Method method) {
        Class<?>[] types = method.getParameterTypes();
        Object[] given = new Object[types.length];
        int[] far = {Integer.MIN_VALUE, Integer.MAX_VALUE, -2, -1, 8, 10, 11, 47, 60, 67, 99, 600};
        for (int i = 0; i < types.length; i++) {
            int number = random.nextInt(8) == 0 ? far[random.nextInt(far.length)] : random.nextInt(i == 0 ? 2 : 4);
            given[i] = types[i] == boolean.class ? (Object) random.nextBoolean() : (Object) number;
        }
        return given;
    }
}
