import java.io.IOException;
import java.lang.reflect.InvocationTargetException;
import java.lang.reflect.Method;
import java.lang.reflect.Modifier;
import java.nio.file.DirectoryStream;
import java.nio.file.Files;
import java.nio.file.Path;
import java.util.HashMap;
import java.util.Map;
import java.util.regex.Matcher;
import java.util.regex.Pattern;

/** What README.md shows is so: its calls answer what stands behind them, and it names each call and each test. */
final class ReadmeTest {
    private static final Path README = Path.of("README.md");
    private static final Path TESTS = Path.of("src/test/java");
    private static final Pattern MADE = Pattern.compile("KnowHouse house = new KnowHouse\\(\\);");
    /** A call, with a name for its answer or without, and the answer behind it. */
    private static final Pattern CALL =
            Pattern.compile("(?:int (\\w+) = )?house\\.(\\w+)\\(([^()]*)\\); +// (-?\\d+)(?:: .*)?");
    private static final int LEAST_CALLS = 20;
    private static final Due DUE = new Due();

    private final Map<String, Integer> named = new HashMap<>();
    private KnowHouse house;
    private int calls;

    public static void main(String[] args) throws IOException, IllegalAccessException, InvocationTargetException {
        String readme = Files.readString(README);
        Matcher shown = Pattern.compile("(?s)```java\n(.*?)```").matcher(readme);
        int blocks = 0;
        while (shown.find()) {
            blocks++;
            new ReadmeTest().runs(shown.group(1));
        }
        DUE.is("README.md shows calls", blocks, 1);
        namesEachCall(readme);
        namesEachTest(readme);
        namesOnlyWhatIs(readme);
        DUE.end();
    }

    private static void holds(String what, boolean so) {
        DUE.is(what, so ? 1 : 0, 1);
    }

    private void runs(String block) throws IllegalAccessException, InvocationTargetException {
        for (String line : block.split("\n")) {
            Matcher call = CALL.matcher(line);
            if (MADE.matcher(line).matches()) {
                house = new KnowHouse();
            } else if (house != null && call.matches()) {
                runs(line, call);
            } else if (!line.isBlank()) {
                holds("README.md: '" + line + "' is a call with its answer", false);
            }
        }
        holds("README.md shows some calls", calls >= LEAST_CALLS);
    }

    private void runs(String line, Matcher call) throws IllegalAccessException, InvocationTargetException {
        Method method = methodOf(call.group(2));
        String[] words = call.group(3).isEmpty() ? new String[0] : call.group(3).split(", ");
        if (method == null || method.getParameterCount() != words.length) {
            holds("README.md: '" + line + "' is a call", false);
            return;
        }
        Object[] given = new Object[words.length];
        for (int i = 0; i < words.length; i++) {
            boolean isYesOrNo = method.getParameterTypes()[i] == boolean.class;
            given[i] = isYesOrNo ? (Object) Boolean.valueOf(words[i]) : (Object) numberOf(words[i]);
        }
        int answer = (Integer) method.invoke(house, given);
        calls++;
        DUE.is("README.md: " + line, answer, Integer.parseInt(call.group(4)));
        if (call.group(1) != null) {
            named.put(call.group(1), answer);
        }
    }

    private Integer numberOf(String word) {
        return named.containsKey(word) ? named.get(word) : Integer.valueOf(word);
    }

    private static Method methodOf(String name) {
        for (Method method : KnowHouse.class.getMethods()) {
            if (method.getDeclaringClass() == KnowHouse.class && method.getName().equals(name)) {
                return method;
            }
        }
        return null;
    }

    private static void namesEachCall(String readme) {
        for (Method method : KnowHouse.class.getDeclaredMethods()) {
            if (Modifier.isPublic(method.getModifiers())) {
                holds("README.md names `" + method.getName() + "(..)`", readme.contains("`" + method.getName() + "("));
            }
        }
    }

    private static void namesEachTest(String readme) throws IOException {
        try (DirectoryStream<Path> files = Files.newDirectoryStream(TESTS, "*Test.java")) {
            for (Path file : files) {
                String name = file.getFileName().toString().replace(".java", "");
                holds("README.md names " + name, Pattern.compile("\\b" + name + "\\b").matcher(readme).find());
            }
        }
    }

    private static void namesOnlyWhatIs(String readme) {
        Matcher test = Pattern.compile("\\b[A-Z]\\w*Test\\b").matcher(readme);
        while (test.find()) {
            holds(test.group() + ", which README.md names, is there",
                    Files.exists(TESTS.resolve(test.group() + ".java")));
        }
        Matcher path = Pattern.compile("(?:\\.\\./shared|src|\\.ci)/[\\w./]*\\w").matcher(readme);
        while (path.find()) {
            holds(path.group() + ", which README.md names, is there", Files.exists(Path.of(path.group())));
        }
    }
}
