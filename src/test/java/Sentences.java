import java.io.IOException;
import java.io.UncheckedIOException;
import java.nio.charset.StandardCharsets;
import java.nio.file.Files;
import java.nio.file.Path;
import java.util.Arrays;
import java.util.BitSet;
import java.util.LinkedHashMap;
import java.util.Map;
import java.util.regex.Matcher;
import java.util.regex.Pattern;

/** Words of the document, each with a test of its own; no words that name a boundary may be without. */
final class Sentences {
    private static final Path DOCUMENT = Path.of("../shared/DOC.md");
    private static final Pattern HEADING = Pattern.compile("^(?:## |==== )([^:.\n]*)", Pattern.MULTILINE);
    private static final Pattern BOUNDARY = Pattern.compile("\\bNONE\\b|-\\d+|Exception: no|\\.\\.|\\bfalse:|of several"
        + "|of like ones|from 0 on|\\bbelow\\b|\\bbeyond\\b|more than|\\bempty\\b|whatever|\\bnothing\\b|at most|each once"
        + "|at least|seventh|17th|ninth|told already|of nobody|told ahead|isn't told|downwards|left over|in any case|\\bitself\\b"
        + "|the first along|the length|if there are none|or earlier|\\balone\\b|goes first|ahead of|0 then|0 at first|are unlike");

    /** One test: it asks a pool of its own, and tells by due() what it answers. */
    interface Test {
        void run();
    }

    private final Check check;
    private final Map<String, String> sections = sectionsOf(read());
    private final Map<String, BitSet> tested = new LinkedHashMap<>();
    private String current = "";

    /** The test of some sections: all their boundaries must be among the words. */
    Sentences(String test, String... headings) {
        check = new Check(test);
        for (String heading : headings) {
            tested.put(heading, new BitSet());
        }
    }

    static String[] promises(int first, int last) {
        String[] headings = new String[last - first + 1];
        Arrays.setAll(headings, k -> "Promise " + (first + k));
        return headings;
    }

    void promise(int number, String words, Test test) {
        says("Promise " + number, words, test);
    }

    void says(String heading, String words, Test test) {
        current = heading + ", \"" + words + "\"";
        String section = sections.getOrDefault(heading, "");
        int from = section.indexOf(words);
        check.due(current + " is in the document", from >= 0 && tested.containsKey(heading), true);
        for (; from >= 0 && tested.containsKey(heading); from = section.indexOf(words, from + 1)) {
            tested.get(heading).set(from, from + words.length());
        }
        int before = check.askedOnes();
        try {
            test.run();
        } catch (RuntimeException e) {
            due("a call threw " + e + " at " + e.getStackTrace()[0], true, false);
        }
        check.due(current + " is asked", check.askedOnes() > before, true);
    }

    void due(String what, long got, long want) {
        check.due(current + ": " + what, got, want);
    }

    void due(String what, boolean got, boolean want) {
        check.due(current + ": " + what, got, want);
    }

    void due(String what, String got, String want) {
        check.due(current + ": " + what, got, want);
    }

    /** A call of the face that refuses each of these numbers. */
    interface Refusal {
        int ask(int number);
    }

    /** All numbers beyond 0 .. n - 1 are answered alike: the next ones, the farthest, and some that would wrap around. */
    void dueOutside(String what, int n, long want, Refusal call) {
        for (int number : new int[] {-1, n, n + 1, -n - 1, Integer.MIN_VALUE, Integer.MAX_VALUE, 1 << 29, 858993460}) {
            due(what + " " + number, Check.answerOf(() -> call.ask(number)), want);
        }
    }

    /** Copies may be 1 .. 99999 wherever they are told. */
    void dueOfCopies(long want, Refusal call) {
        for (int copies : new int[] {0, -1, 100000, Integer.MIN_VALUE, Integer.MAX_VALUE}) {
            due("copies " + copies, call.ask(copies), want);
        }
    }

    void end() {
        tested.forEach((heading, words) -> {
            Matcher m = BOUNDARY.matcher(sections.getOrDefault(heading, ""));
            while (m.find()) {
                boolean isTested = words.get(m.start()) && words.get(m.end() - 1);
                check.due(heading + ": \"" + m.group() + "\" at " + m.start() + " has a test of its own", isTested, true);
            }
        });
        check.end();
    }

    private static String read() {
        try {
            return Files.readString(DOCUMENT, StandardCharsets.UTF_8);
        } catch (IOException e) {
            throw new UncheckedIOException(e);
        }
    }

    /** What stands under each heading; the face of a promise between its first two ` is no sentence. */
    private static Map<String, String> sectionsOf(String document) {
        Map<String, String> sections = new LinkedHashMap<>();
        Matcher m = HEADING.matcher(document);
        String heading = "";
        int from = 0;
        while (m.find()) {
            sections.put(heading, withoutFace(document.substring(from, m.start())));
            heading = m.group(1).trim();
            from = m.end();
        }
        sections.put(heading, withoutFace(document.substring(from)));
        return sections;
    }

    private static String withoutFace(String section) {
        return section.replaceFirst("(?s)^.*?`[^`]+\\)[^`]*`:", "");
    }
}
