import java.io.IOException;
import java.lang.reflect.Constructor;
import java.lang.reflect.Executable;
import java.lang.reflect.Field;
import java.lang.reflect.Method;
import java.lang.reflect.Modifier;
import java.nio.charset.StandardCharsets;
import java.nio.file.Files;
import java.nio.file.Path;
import java.util.Arrays;
import java.util.Set;
import java.util.TreeSet;
import java.util.regex.Matcher;
import java.util.regex.Pattern;
import java.util.stream.Collectors;

/** The class shows the document's face and nothing else, and keeps to those rules of LANGUAGE.md that a test can see. */
public final class FaceTest {
    private static final Check CHECK = new Check("FaceTest");
    private static final Path SOURCE = Path.of("src/main/java/RightsPool.java");
    private static final Path DOCUMENT = Path.of("../shared/DOC.md");
    // the rules say "some": a few more are no fault
    private static final int SOME_TWELVE = 14;
    private static final int SOME_TWENTY = 24;
    private static final int SOME_SIXTY = 70;

    public static void main(String[] args) throws IOException {
        face();
        nestedClasses();
        source();
        CHECK.end();
    }

    private static void face() throws IOException {
        String document = Files.readString(DOCUMENT, StandardCharsets.UTF_8);
        Set<String> due = new TreeSet<>();
        Matcher line = Pattern.compile("^    public (int|boolean) (\\w+)\\(([^)]*)\\)", Pattern.MULTILINE).matcher(document);
        while (line.find()) {
            due.add(line.group(1) + " " + line.group(2) + "(" + line.group(3).replaceAll(" \\w+(,|$)", "$1") + ")");
        }
        Set<String> shown = new TreeSet<>();
        Set<String> hidden = new TreeSet<>();
        for (Method method : RightsPool.class.getDeclaredMethods()) {
            String types = Arrays.stream(method.getParameterTypes()).map(Class::getName).collect(Collectors.joining(", "));
            if (Modifier.isPublic(method.getModifiers())) {
                shown.add(method.getReturnType() + " " + method.getName() + "(" + types + ")");
            } else {
                hidden.add(method.getName());
                CHECK.due(method.getName() + " is private", Modifier.isPrivate(method.getModifiers()), true);
            }
        }
        System.out.println("FaceTest: " + due.size() + " methods in the document");
        CHECK.due("the methods " + shown + " are " + due, shown.equals(due) && due.size() > 50, true);
        for (String method : due) {
            String name = method.replaceAll(".* |\\(.*", "");
            CHECK.due("no private " + name, hidden.contains(name), false);
        }
        CHECK.due("public and final", RightsPool.class.getModifiers(), Modifier.PUBLIC | Modifier.FINAL);
        for (Constructor<?> made : RightsPool.class.getDeclaredConstructors()) {
            CHECK.due("one constructor", Modifier.isPublic(made.getModifiers()) && made.getParameterCount() == 0, true);
        }
        for (Field field : RightsPool.class.getDeclaredFields()) {
            boolean isConstant = field.getName().equals("NONE");
            CHECK.due("field " + field.getName(), Modifier.isPrivate(field.getModifiers()), !isConstant);
        }
    }

    private static void nestedClasses() {
        Class<?>[] nested = RightsPool.class.getDeclaredClasses();
        CHECK.due("some twelve classes", nested.length <= SOME_TWELVE, true);
        rulesOf(RightsPool.class);
        Set<String> publicOnes = Arrays.stream(RightsPool.class.getDeclaredMethods())
            .filter(m -> Modifier.isPublic(m.getModifiers())).map(Method::getName).collect(Collectors.toSet());
        for (Class<?> one : nested) {
            boolean isSeen = Modifier.isPublic(one.getModifiers()) || Modifier.isProtected(one.getModifiers());
            CHECK.due(one + " is static and not shown", Modifier.isStatic(one.getModifiers()) && !isSeen, true);
            rulesOf(one);
            for (Method method : one.getDeclaredMethods()) {
                boolean isLikeAPublicOne = Modifier.isPrivate(method.getModifiers()) && publicOnes.contains(method.getName());
                CHECK.due(one + "." + method.getName() + " bears no public name", isLikeAPublicOne, false);
            }
        }
    }

    private static void rulesOf(Class<?> one) {
        int fields = 0;
        for (Field field : one.getDeclaredFields()) {
            boolean isStatic = Modifier.isStatic(field.getModifiers());
            CHECK.due(one + " static " + field.getName(), !isStatic || Modifier.isFinal(field.getModifiers()), true);
            fields += isStatic ? 0 : 1;
        }
        CHECK.due(one + " has some twenty fields", fields <= SOME_TWENTY, true);
        for (Executable method : one.getDeclaredMethods()) {
            CHECK.due(one + "." + method.getName() + " takes at most seven", method.getParameterCount() <= 7, true);
        }
    }

    private static void source() throws IOException {
        String text = Files.readString(SOURCE, StandardCharsets.ISO_8859_1);
        CHECK.due("signs 1 to 127", text.chars().allMatch(c -> c >= 1 && c <= 127), true);
        String[] never = {"::", "Exact\\(", "\\bfinally\\b", "\\bsynchronized\\b", "\\bassert\\b", "^package\\b", "\\bstatic \\{",
            "\\bSystem\\.(?!arraycopy\\b)", "\\bArrays\\.(?!fill\\(|copyOf\\(|copyOfRange\\()", "\\bwhile \\(true", "\\bfor \\(;;",
            "\\bgetMessage\\b", "\\bThread\\b", "\\bRandom\\b", "\\bextends \\w*Exception\\b",
            "\\bcatch \\((?:\\w+ \\| )*(?:Throwable|Exception|ArrayIndexOutOfBoundsException|NullPointerException|ClassCastException"
                + "|NegativeArraySizeException|ArrayStoreException|Error)\\b"};
        for (String word : never) {
            CHECK.due("no " + word, Pattern.compile(word, Pattern.MULTILINE).matcher(text).find(), false);
        }
        // an arrow may stand in a switch alone: a lambda has none of these words ahead
        CHECK.due("no lambda", Pattern.compile("^(?!.*\\b(?:case|default)\\b).*->", Pattern.MULTILINE).matcher(text).find(), false);
        Matcher m = Pattern.compile("^import (.*);", Pattern.MULTILINE).matcher(text);
        while (m.find()) {
            boolean isListed = m.group(1).matches("java\\.util\\.(Arrays|ArrayList|List|Iterator|NoSuchElementException|\\*)");
            CHECK.due("import " + m.group(1), isListed, true);
        }
        methodsStayShort(text.split("\n"));
    }

    private static void methodsStayShort(String[] lines) {
        int from = -1;
        for (int k = 0; k < lines.length; k++) {
            if (lines[k].matches("(    |        )(public |private |static )*[\\w\\[\\]]+ \\w+\\([^;]*\\{")) {
                from = k;
            } else if (from >= 0 && (lines[k].equals("    }") || lines[k].equals("        }"))) {
                CHECK.due("short: " + lines[from].trim(), k - from <= SOME_SIXTY, true);
                from = -1;
            }
        }
    }
}
