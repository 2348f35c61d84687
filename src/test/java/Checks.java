import java.util.function.LongSupplier;

/** What the tests share: answers that are due, exceptions that are due, and the end with 1 if one was wrong. */
final class Checks {
    static final Class<? extends RuntimeException> NO_SUCH = IndexOutOfBoundsException.class;
    static final Class<? extends RuntimeException> ARGUMENT = IllegalArgumentException.class;
    static final Class<? extends RuntimeException> STATE = IllegalStateException.class;

    private static int made = 0;
    private static int wrong = 0;
    private static String test = "";

    private Checks() {
    }

    /** What is wrong from here on is told with the name of this test. */
    static void begin(String name) {
        test = name + ": ";
    }

    static void due(String call, long got, long want) {
        made++;
        if (got != want) {
            wrong++;
            System.out.println(test + call + " answered " + got + ", due is " + want);
        }
    }

    static void dueNearly(String call, double got, double want) {
        due(call, Double.doubleToLongBits(got), Double.doubleToLongBits(want));
    }

    static void good(String what, boolean isSo) {
        made++;
        if (!isSo) {
            wrong++;
            System.out.println(test + "it is not so that " + what);
        }
    }

    /** The call must throw this very class, not one below it, and the object must stay as it was. */
    static void throwing(StrandLoaves x, String call, Class<? extends RuntimeException> want, LongSupplier made) {
        long before = x.digest();
        String got;
        try {
            got = "answered " + made.getAsLong();
        } catch (RuntimeException e) {
            got = e.getClass() == want ? "" : "threw " + e.getClass().getName();
        }
        good(call + " throws " + want.getSimpleName() + " (it " + got + ")", got.isEmpty());
        due(call + " changes nothing: digest()", x.digest(), before);
    }

    static void type(StrandLoaves x, String text) {
        for (int i = 0; i < text.length(); i++) {
            x.append(text.charAt(i));
        }
    }

    static int lay(StrandLoaves x, String text) {
        x.clearBuffer();
        type(x, text);
        return x.lay();
    }

    static int works(StrandLoaves x, String text) {
        x.clearBuffer();
        type(x, text);
        return x.work();
    }

    static StrandLoaves with(String... loaves) {
        StrandLoaves x = new StrandLoaves();
        for (String loaf : loaves) {
            lay(x, loaf);
        }
        return x;
    }

    /** A loaf as a text again, to look at words as a whole. */
    static String text(StrandLoaves x, int loaf) {
        StringBuilder text = new StringBuilder().append(x.loaf(loaf, 0)).append(':');
        for (int i = 0; i < x.loaf(loaf, 1); i++) {
            text.append((char) ('a' + x.crossing(loaf, i, 0))).append(x.crossing(loaf, i, 1) == 1 ? '+' : '-');
        }
        return text.toString();
    }

    static void dueText(StrandLoaves x, int loaf, String want) {
        String got = text(x, loaf);
        good("loaf " + loaf + " is " + want + " (it is " + got + ")", got.equals(want));
    }

    static void end(String name) {
        System.out.println(name + ": " + made + " checks, " + wrong + " wrong");
        if (wrong != 0) {
            System.exit(1);
        }
    }
}
