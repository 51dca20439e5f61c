import java.io.IOException;
import java.lang.reflect.InvocationTargetException;
import java.lang.reflect.Method;
import java.lang.reflect.Modifier;
import java.nio.charset.StandardCharsets;
import java.nio.file.Files;
import java.nio.file.Path;
import java.util.Set;
import java.util.TreeSet;
import java.util.regex.Matcher;
import java.util.regex.Pattern;
import java.util.stream.Collectors;
import java.util.stream.Stream;

/** README.md holds: the calls that it shows answer as it says, and it names every call of the face and every test. */
public final class ReadmeTest {
    private static final Check CHECK = new Check("ReadmeTest");
    private static final Path README = Path.of("README.md");
    private static final Path TESTS = Path.of("src/test/java");
    private static final Pattern BLOCK = Pattern.compile("^```java\n(.*?)^```$", Pattern.MULTILINE | Pattern.DOTALL);
    private static final Pattern TOLD = Pattern.compile("Texts\\.(?:pool|tell)\\((?:pool, )?\"([^\"]*)\"\\);(?: +// (-?\\d+): .+)?");
    private static final Pattern CALL = Pattern.compile("pool\\.(\\w+)\\(([^)]*)\\); +// ([-\\w]+): .+");
    private static final Pattern NAMED = Pattern.compile("`(\\w+)`");

    private static RightsPool pool = new RightsPool();
    private static int shown;

    public static void main(String[] args) throws IOException, ReflectiveOperationException {
        String readme = Files.readString(README, StandardCharsets.UTF_8);
        Matcher block = BLOCK.matcher(readme);
        while (block.find()) {
            for (String line : block.group(1).split("\n")) {
                follow(line);
            }
        }
        CHECK.due("calls are shown", shown > 20, true);
        names(readme);
        CHECK.due(".ci/run can be run", Files.isExecutable(Path.of(".ci/run")), true);
        CHECK.end();
    }

    private static void follow(String line) throws ReflectiveOperationException {
        Matcher told = TOLD.matcher(line);
        Matcher call = CALL.matcher(line);
        if (line.equals("RightsPool pool = new RightsPool();")) {
            pool = new RightsPool();
        } else if (line.startsWith("RightsPool pool = ") && told.find()) {
            pool = Texts.pool(told.group(1));
        } else if (told.matches()) {
            CHECK.due(line, String.valueOf(Texts.tell(pool, told.group(1))), String.valueOf(told.group(2)));
        } else if (call.matches()) {
            shown++;
            CHECK.due(line, answerOf(call.group(1), call.group(2)), call.group(3));
        } else {
            CHECK.due("can be followed: " + line, line.startsWith("// "), true);
        }
    }

    private static String answerOf(String name, String told) throws ReflectiveOperationException {
        String[] words = told.isEmpty() ? new String[0] : told.split(", ");
        for (Method method : RightsPool.class.getDeclaredMethods()) {
            if (Modifier.isPublic(method.getModifiers()) && method.getName().equals(name)) {
                return answerOf(method, words);
            }
        }
        return "no such call";
    }

    private static String answerOf(Method method, String[] words) throws ReflectiveOperationException {
        Class<?>[] types = method.getParameterTypes();
        if (types.length != words.length) {
            return "not so many arguments";
        }
        Object[] arguments = new Object[words.length];
        for (int k = 0; k < words.length; k++) {
            if (types[k] == boolean.class) {
                arguments[k] = Boolean.valueOf(words[k]);
            } else {
                arguments[k] = Integer.decode(words[k]);
            }
        }
        try {
            return String.valueOf(method.invoke(pool, arguments));
        } catch (InvocationTargetException e) {
            return e.getCause().getClass().getSimpleName();
        }
    }

    private static void names(String readme) throws IOException {
        Set<String> named = new TreeSet<>();
        Matcher name = NAMED.matcher(readme);
        while (name.find()) {
            named.add(name.group(1));
        }
        for (Method method : RightsPool.class.getDeclaredMethods()) {
            if (Modifier.isPublic(method.getModifiers())) {
                // a call that is shown needs no other word
                boolean isNamed = named.contains(method.getName()) || readme.contains("pool." + method.getName() + "(");
                CHECK.due(method.getName() + " is named", isNamed, true);
            }
        }
        Set<String> namedTests = named.stream().filter(one -> one.endsWith("Test")).collect(Collectors.toCollection(TreeSet::new));
        CHECK.due("the tests", namedTests.toString(), tests().toString());
    }

    private static Set<String> tests() throws IOException {
        try (Stream<Path> files = Files.list(TESTS)) {
            return files.map(file -> file.getFileName().toString()).filter(name -> name.endsWith("Test.java"))
                .map(name -> name.replace(".java", "")).collect(Collectors.toCollection(TreeSet::new));
        }
    }
}
