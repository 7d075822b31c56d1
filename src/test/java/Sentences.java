import java.io.IOException;
import java.nio.file.Files;
import java.nio.file.Path;
import java.util.ArrayList;
import java.util.EnumMap;
import java.util.LinkedHashMap;
import java.util.List;
import java.util.Map;
import java.util.TreeMap;

/**
 * Tests told by the document's sentences: each test names the words to which it
 * holds the class. When all are told, end() looks whether those words stand in
 * the document, and whether any of its sentences has no test.
 */
final class Sentences {
    static final int NONE = LilyWheels.NONE;
    static final Class<IndexOutOfBoundsException> NO_SUCH = IndexOutOfBoundsException.class;
    static final Class<IllegalArgumentException> BAD = IllegalArgumentException.class;
    static final Class<IllegalStateException> STATE = IllegalStateException.class;
    static final String INTRODUCTION = "What it is";
    static final String TERMS = "Terms";

    private static final Path DOCUMENT = Path.of("../shared/DOC.md");

    interface Test {
        void make();
    }

    private final Checks checks;
    private final Map<String, List<String>> quotes = new LinkedHashMap<>();
    private final Map<Start, String> untouched = new EnumMap<>(Start.class);
    private String now = "";

    Sentences(String name) {
        checks = new Checks(name);
        for (Start start : Start.values()) {
            untouched.put(start, Whole.of(start, x -> 0));
        }
    }

    void tell(int promise, String quote, Test test) {
        tell("Promise " + promise, quote, test);
    }

    void tell(String section, String quote, Test test) {
        quotes.computeIfAbsent(section, s -> new ArrayList<>()).add(plain(quote));
        now = section + ", \"" + quote + "\": ";
        int before = checks.made();
        test.make();
        checks.due(now + "something is tested", checks.made() > before);
    }

    void due(String call, long got, long want) {
        checks.due(now + call, got, want);
    }

    void due(String call, boolean holds) {
        checks.due(now + call, holds);
    }

    void same(String call, String got, String want) {
        checks.due(now + call + ": " + got + " where " + want + " is due", got.equals(want));
    }

    /** The call throws just this class, and behind it all is as it was. */
    void refused(Start start, String call, Class<? extends RuntimeException> want, Whole.Call made) {
        LilyWheels x = start.make();
        checks.refused(now + start + ": " + call, want, () -> made.on(x));
        checks.due(now + start + ": " + call + " changes nothing", Whole.of(start, made).equals(untouched.get(start)));
    }

    void refusedAnywhere(String call, Class<? extends RuntimeException> want, Whole.Call made) {
        for (Start start : Start.values()) {
            refused(start, call, want, made);
        }
    }

    /** The same of an object that stands for no start; only the state is compared. */
    void refused(LilyWheels x, String call, Class<? extends RuntimeException> want, Whole.Call made) {
        String before = Seen.of(x);
        checks.refused(now + call, want, () -> made.on(x));
        checks.due(now + call + " changes nothing", Seen.of(x).equals(before));
    }

    /** The call answers, and behind it all is as it was. */
    void harmless(Start start, String call, Whole.Call made) {
        String outcome = Whole.outcome(made, start.make());
        checks.due(now + start + ": " + call + " answers: " + outcome, !outcome.endsWith("Exception"));
        checks.due(now + start + ": " + call + " changes nothing", Whole.of(start, made).equals(untouched.get(start)));
    }

    /** An object made by a text, no command of which is left out. */
    LilyWheels pond(String text) {
        LilyWheels x = new LilyWheels();
        Start.write(x, text);
        due("load() of " + text, x.load(), 0);
        return x;
    }

    /** Those nearest to a range on either side, and some far off. */
    static int[] beyond(int from, int to) {
        return new int[] {from - 1, to + 1, from - 256, to + 256, Integer.MIN_VALUE, Integer.MAX_VALUE};
    }

    void end() {
        if (Files.exists(DOCUMENT)) {
            compareWithDocument();
        } else {
            System.out.println("no " + DOCUMENT + " here: the tests' words are not compared with it");
        }
        checks.end();
    }

    private void compareWithDocument() {
        now = "";
        Map<String, String> sections = sections();
        for (Map.Entry<String, List<String>> told : quotes.entrySet()) {
            String section = plain(sections.getOrDefault(told.getKey(), ""));
            for (String quote : told.getValue()) {
                checks.due("\"" + quote + "\" stands in the section " + told.getKey(), section.contains(quote));
            }
        }
        for (Map.Entry<String, String> section : sections.entrySet()) {
            for (String sentence : sentencesOf(section.getValue())) {
                checks.due(section.getKey() + ": \"" + sentence + "\" has a test",
                    hasTest(section.getKey(), sentence));
            }
        }
    }

    private boolean hasTest(String section, String sentence) {
        for (String quote : quotes.getOrDefault(section, List.of())) {
            if (sentence.contains(quote) || quote.contains(sentence)) {
                return true;
            }
        }
        return false;
    }

    /** The text of each promise, and of the sections ahead of them. */
    private static Map<String, String> sections() {
        Map<String, String> sections = new TreeMap<>();
        String name = "";
        for (String line : lines()) {
            if (line.startsWith("## ")) {
                name = line.substring(3);
                name = name.startsWith("Promise ") ? name.substring(0, name.indexOf(':')) : name;
            } else if (name.startsWith("Promise ") || name.equals(TERMS) || name.equals(INTRODUCTION)) {
                sections.merge(name, line + "\n", String::concat);
            }
        }
        return sections;
    }

    private static List<String> lines() {
        try {
            return Files.readAllLines(DOCUMENT);
        } catch (IOException e) {
            throw new IllegalStateException("cannot read " + DOCUMENT, e);
        }
    }

    /** A paragraph's sentences; the list of arguments counts one each; a signature and a heading are none. */
    private static List<String> sentencesOf(String section) {
        List<String> all = new ArrayList<>();
        for (String paragraph : section.split("\n\n|\n(?=- `)")) {
            String text = plain(paragraph.replaceFirst("^\\s*`[^`]*[)\\w]`: ", ""));
            for (String sentence : text.split("(?<=[.]) (?=[A-Z0-9])")) {
                boolean heading = sentence.startsWith("Ahead of the calls") && !sentence.contains("change nothing");
                if (!sentence.isEmpty() && !heading) {
                    all.add(sentence);
                }
            }
        }
        return all;
    }

    private static String plain(String text) {
        return text.replace("`", "").replaceAll("\\s+", " ").trim();
    }
}
