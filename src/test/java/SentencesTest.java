import java.io.IOException;
import java.lang.reflect.Method;
import java.nio.file.Files;
import java.nio.file.Path;
import java.util.ArrayList;
import java.util.LinkedHashMap;
import java.util.List;
import java.util.Map;
import java.util.regex.Matcher;
import java.util.regex.Pattern;

/**
 * Holds the tests of boundaries against DOC.md itself: what a test cites stands there, under the promise (or the
 * terms) of its name, and no word of the terms and the promises is left that no test cites.
 */
public final class SentencesTest {
    private static final Path DOC = Path.of("../shared/DOC.md");
    private static final List<Class<?>> TESTS = List.of(BoundaryTermsTest.class, BoundaryLoavesTest.class,
            BoundaryTextsTest.class, BoundaryUndoTest.class, BoundaryLooksTest.class, BoundaryWouldBeTest.class);

    // Headings, declarations (LanguageTest has the face), and lines that name no boundary; they need no test.
    private static final Pattern PLAIN = Pattern.compile("(?m)^#.*$"
            + "|^(Loaves, crossings|Input texts|Undo, the snapshot|Rings)$"
            + "|^`(int|long|double|StrandLoaves)[^`]*`: (Returns something of a (loaf|(crossing|strand) of a loaf)\\."
            + "|Returns a crossing of the loose word of a loaf\\.|Returns a number\\.|Returns how much is loose\\."
            + "|Tells why a crossing cannot be made\\.)?"
            + "|^Returns the number\\.$"
            + "|^All numbers are integers, but for a share\\.$"
            + "|^- `(loaf|other)`: its number$"
            + "|^The constants: "
            + "|^Ahead of the calls .*: ---- (loaves|texts|undo, the snapshot)\\.$");

    private static final class Section {
        final String text;
        final boolean[] isCited;

        Section(String text) {
            this.text = text;
            isCited = new boolean[text.length()];
        }

        void cite(int from, int to) {
            for (int i = from; i < to; i++) {
                isCited[i] = true;
            }
        }

        void citePlain() {
            Matcher plain = PLAIN.matcher(text);
            while (plain.find()) {
                cite(plain.start(), plain.end());
            }
        }

        /** Rows of letters, or of digits, that no test has cited. */
        List<String> rest() {
            List<String> rest = new ArrayList<>();
            StringBuilder row = new StringBuilder();
            for (int i = 0; i <= text.length(); i++) {
                if (i < text.length() && !isCited[i] && text.charAt(i) != '\n') {
                    row.append(text.charAt(i));
                } else {
                    if (row.chars().anyMatch(Character::isLetterOrDigit)) {
                        rest.add(row.toString());
                    }
                    row.setLength(0);
                }
            }
            return rest;
        }
    }

    private SentencesTest() {
    }

    public static void main(String[] args) throws IOException {
        Checks.good(DOC + " is there", Files.exists(DOC));
        Map<String, Section> sections = sections(Files.exists(DOC) ? Files.readString(DOC) : "");
        int tests = 0;
        for (Class<?> one : TESTS) {
            for (Method test : Boundaries.testsOf(one)) {
                tests++;
                cite(sections, test);
            }
        }
        for (Map.Entry<String, Section> section : sections.entrySet()) {
            for (String rest : section.getValue().rest()) {
                Checks.good("a test of " + section.getKey() + " cites: " + rest, section.getKey().equals("object"));
            }
        }
        Checks.good("there are the terms and 26 promises", sections.size() == 28);
        System.out.println("SentencesTest: " + tests + " tests of boundaries");
        Checks.end("SentencesTest");
    }

    private static Map<String, Section> sections(String doc) {
        Map<String, Section> sections = new LinkedHashMap<>();
        for (String part : doc.split("(?m)^(?=## )")) {
            Matcher heading = Pattern.compile("## (What it is|Terms|Promise (\\d+))").matcher(part);
            if (heading.lookingAt()) {
                Section section = new Section(part);
                section.citePlain();
                sections.put(nameOf(heading), section);
            }
        }
        return sections;
    }

    /** What the names of its tests begin with. */
    private static String nameOf(Matcher heading) {
        if (heading.group(2) != null) {
            return String.format("promise%02d", Integer.parseInt(heading.group(2)));
        }
        return heading.group(1).equals("Terms") ? "terms" : "object";
    }

    private static void cite(Map<String, Section> sections, Method test) {
        String words = test.getAnnotation(Says.class).value();
        String prefix = test.getName().substring(0, Math.max(0, test.getName().indexOf('_')));
        Section section = sections.get(prefix.equals("constant") ? "terms" : prefix);
        Checks.good(test.getName() + " begins with its promise", section != null);
        if (section != null) {
            int from = section.text.indexOf(words);
            Checks.good(test.getName() + " cites what stands there: " + words, from >= 0);
            Checks.good(test.getName() + " cites what stands there once: " + words,
                    section.text.lastIndexOf(words) == from);
            section.cite(Math.max(from, 0), from < 0 ? 0 : from + words.length());
        }
    }
}
