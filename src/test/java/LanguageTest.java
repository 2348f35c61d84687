import java.io.IOException;
import java.lang.reflect.Constructor;
import java.lang.reflect.Field;
import java.lang.reflect.Method;
import java.lang.reflect.Modifier;
import java.nio.file.Files;
import java.nio.file.Path;
import java.util.Arrays;
import java.util.Set;
import java.util.TreeSet;
import java.util.regex.Matcher;
import java.util.regex.Pattern;
import java.util.stream.Collectors;

/** The face as DOC.md writes it, and those rules of LANGUAGE.md that can be told from the text or by reflection. */
public final class LanguageTest {
    private static final Path SOURCE = Path.of("src/main/java/StrandLoaves.java");

    private static final String FACE = """
            lay() IllegalArgumentException, IllegalStateException
            bake(int) IndexOutOfBoundsException
            cross(int, int, boolean) IndexOutOfBoundsException, IllegalStateException
            back(int) IndexOutOfBoundsException, IllegalStateException
            change(int, int) IndexOutOfBoundsException, IllegalArgumentException, IllegalStateException
            join(int, int) IndexOutOfBoundsException, IllegalStateException
            append(int) IllegalArgumentException, IllegalStateException
            clearBuffer()
            firstError(boolean)
            work() IllegalArgumentException
            stopped(int) IllegalArgumentException
            undo() IllegalStateException
            keep()
            restore() IllegalStateException
            crossing(int, int, int) IndexOutOfBoundsException, IllegalArgumentException
            strand(int, int, int) IndexOutOfBoundsException, IllegalArgumentException
            loaf(int, int) IndexOutOfBoundsException, IllegalArgumentException
            loose(int, int) IndexOutOfBoundsException, IllegalArgumentException
            count(int) IllegalArgumentException
            whyNot(int, int, boolean) IndexOutOfBoundsException
            ifChanged(int, int) IndexOutOfBoundsException, IllegalArgumentException
            alike(int, int) IndexOutOfBoundsException
            period(int) IndexOutOfBoundsException
            double looseShare()
            long digest()
            """;

    private static final String[] HEADINGS = {"loaves", "texts", "undo, the snapshot", "looks; nothing is changed",
        "what would be; nothing is changed"};

    // What the class may name of the library; any other capital word before a dot is refused.
    private static final Set<String> LIBRARY = Set.of("Math.min", "Math.floorMod", "System.arraycopy");

    public static void main(String[] args) throws IOException {
        face();
        membersOfAll();
        headings(Files.readString(SOURCE));
        String code = withoutTexts(Files.readString(SOURCE));
        words(code);
        library(code);
        loops(code);
        lengths(code);
        Checks.end("LanguageTest");
    }

    private static void face() {
        Class<?> face = StrandLoaves.class;
        Checks.good("the class is public and final",
                Modifier.isPublic(face.getModifiers()) && Modifier.isFinal(face.getModifiers()));
        Set<String> want = new TreeSet<>();
        for (String line : FACE.split("\n")) {
            want.add(line.startsWith("double ") || line.startsWith("long ") ? line : "int " + line);
        }
        Set<String> got = new TreeSet<>();
        for (Method method : face.getDeclaredMethods()) {
            if (Modifier.isPublic(method.getModifiers())) {
                got.add(told(method));
            } else {
                Checks.good(method + " is private", Modifier.isPrivate(method.getModifiers()));
            }
        }
        Checks.good("the methods are " + want + " (they are " + got + ")", got.equals(want));
        for (Field field : face.getDeclaredFields()) {
            Checks.good(field + " is private, or NONE",
                    Modifier.isPrivate(field.getModifiers()) || field.getName().equals("NONE"));
        }
        Constructor<?>[] constructors = face.getDeclaredConstructors();
        Checks.good("there is one constructor, public and without parameters", constructors.length == 1
                && constructors[0].getParameterCount() == 0 && Modifier.isPublic(constructors[0].getModifiers()));
    }

    private static String told(Method method) {
        String parameters = Arrays.stream(method.getParameterTypes())
                .map(Class::getSimpleName).collect(Collectors.joining(", ", "(", ")"));
        String thrown = Arrays.stream(method.getExceptionTypes())
                .map(Class::getSimpleName).collect(Collectors.joining(", "));
        return (method.getReturnType().getSimpleName() + " " + method.getName() + parameters + " " + thrown).trim();
    }

    private static void headings(String source) {
        int from = 0;
        for (String heading : HEADINGS) {
            from = source.indexOf("    // ---- " + heading + "\n", from);
            Checks.good("the calls stand under the heading " + heading, from >= 0);
            from = Math.max(from, 0);
        }
    }

    private static void membersOfAll() {
        Set<String> names = new TreeSet<>();
        for (Method method : StrandLoaves.class.getDeclaredMethods()) {
            if (Modifier.isPublic(method.getModifiers())) {
                names.add(method.getName());
            }
        }
        Class<?>[] inside = StrandLoaves.class.getDeclaredClasses();
        Checks.good("there are at most 12 classes", inside.length < 12);
        members(StrandLoaves.class, Set.of());
        for (Class<?> one : inside) {
            Checks.good(one + " is static, and not public",
                    Modifier.isStatic(one.getModifiers()) && !Modifier.isPublic(one.getModifiers()));
            members(one, names);
        }
    }

    private static void members(Class<?> one, Set<String> names) {
        int fields = 0;
        for (Field field : one.getDeclaredFields()) {
            boolean isStatic = Modifier.isStatic(field.getModifiers());
            Checks.good(field + " is final, if static", !isStatic || Modifier.isFinal(field.getModifiers()));
            fields += isStatic ? 0 : 1;
        }
        Checks.good(one + " has at most 20 fields", fields <= 20);
        for (Method method : one.getDeclaredMethods()) {
            Checks.good(method + " has no name of the face", !names.contains(method.getName()));
            Checks.good(method + " has at most 7 parameters", method.getParameterCount() <= 7);
        }
    }

    private static String withoutTexts(String source) {
        return source.replaceAll("(?s)/\\*.*?\\*/", "").replaceAll("//[^\n]*", "")
                .replaceAll("\"[^\"\n]*\"", "\"\"").replaceAll("'[^']'", "' '");
    }

    private static void words(String code) {
        String[] refused = {"package", "import", "catch", "try", "finally", "synchronized", "assert", "instanceof",
            "volatile", "transient", "native", "yield", "var", "protected"};
        for (String word : refused) {
            Checks.good("the class does without " + word, !Pattern.compile("\\b" + word + "\\b").matcher(code).find());
        }
        for (String signs : new String[] {"->", "::", "@", "\" +", "+ \"", "while (true)", "for (;;"}) {
            Checks.good("the class does without " + signs, !code.contains(signs));
        }
        Checks.good("there is no static initialiser", !Pattern.compile("static\\s*\\{").matcher(code).find());
        String due = "new (IllegalState|IllegalArgument|IndexOutOfBounds)Exception\\(\"\"\\);";
        Matcher thrown = Pattern.compile("throw\\s+(?!" + due + ")").matcher(code);
        Checks.good("each throw is of a new exception that the face names", !thrown.find());
        Checks.good("the file has signs 1 to 126 alone", code.chars().allMatch(c -> c > 0 && c < 127));
    }

    private static void library(String code) {
        Set<String> own = Arrays.stream(StrandLoaves.class.getDeclaredClasses())
                .map(Class::getSimpleName).collect(Collectors.toSet());
        Matcher named = Pattern.compile("\\b([A-Z][a-z]\\w*)\\.(\\w+)").matcher(code);
        while (named.find()) {
            Checks.good(named.group() + " is of the file or of LANGUAGE.md",
                    own.contains(named.group(1)) || LIBRARY.contains(named.group()));
        }
    }

    /** Rule 9: the end of a loop is seen from its own lines, so a counter goes by a written step to a bound. */
    private static void loops(String code) {
        Checks.good("the class does without while and do", !Pattern.compile("\\b(while|do)\\b").matcher(code).find());
        Pattern counted = Pattern.compile("for \\(int (\\w+) = [^;]+; [^;|]*\\b\\1 (<|<=|>|>=) [^;|]+;"
                + " \\1(\\+\\+|--| \\+= [1-9]\\d*)\\) \\{");
        Matcher loop = Pattern.compile("\\bfor\\b[^{]*\\{").matcher(code);
        int loops = 0;
        while (loop.find()) {
            loops++;
            Checks.good("the end of this loop can be seen: " + loop.group(), counted.matcher(loop.group()).matches());
        }
        Checks.good("the loops are found", loops > 0);
    }

    private static void lengths(String code) {
        int from = 0;
        String[] lines = code.split("\n");
        for (int i = 0; i < lines.length; i++) {
            if (lines[i].matches("( {4}| {8})[^ }].*\\(.*") && !lines[i].contains(";")) {
                from = i;
            }
            if (lines[i].matches("( {4}| {8})}")) {
                Checks.good("the method that ends in line " + (i + 1) + " of the code is short", i - from <= 60);
            }
            Checks.good("line " + (i + 1) + " of the code is at most 120 long", lines[i].length() <= 120);
        }
    }
}
