import java.lang.reflect.InvocationTargetException;
import java.lang.reflect.Method;
import java.util.ArrayList;
import java.util.Comparator;
import java.util.List;

/**
 * What the tests of boundaries share: their loaves, and how they are run. A test's name begins with its promise
 * (promise02_..), or with terms_, object_ or constant_ for what DOC.md says ahead of the promises.
 */
final class Boundaries {
    static final int LOW = Integer.MIN_VALUE;
    static final int HIGH = Integer.MAX_VALUE;

    /** Strand 0 hides at each of 15 crossings, and has no dough left. */
    static final String FIRST_HIDES_15 = "2:" + "a-a+".repeat(7) + "a-";
    static final String FIRST_HIDES_16 = "2:" + "a-a+".repeat(8);
    /** Strand 0 hides 14 times and goes above once: it has 1 of dough left, and is in place 1. */
    static final String FIRST_USES_29 = "2:" + "a-a+".repeat(7) + "a+";
    /** Strand 0 hides 14 times: it has 2 of dough left, and is in place 0. */
    static final String FIRST_USES_28 = "2:" + "a-a+".repeat(7);
    /** Each of the two strands goes above 10 times and hides 10 times, so that both have no dough left. */
    static final String BOTH_USED_UP = "2:" + "a+".repeat(20);
    /** Strand 6 hides at each of 15 crossings, and has no dough left. */
    static final String LAST_HIDES_15 = "7:" + "f+f-".repeat(7) + "f+";
    /** Strand 0 goes above at each of 24 crossings, the two others hide 12 times each; all come home. */
    static final String FIRST_ABOVE_24 = "3:" + "a+b+b-a-".repeat(6);
    /** Strand 0 has no dough left, and there are 24 crossings. */
    static final String FULL_WITHOUT_DOUGH = "3:" + "a-a+".repeat(7) + "b+".repeat(9) + "a-";
    /** 24 crossings, at each place of seven strands, none of which can undo another. */
    static final String LONGEST = "7:" + "a+b-c+d-e+f-".repeat(4);

    private Boundaries() {
    }

    static void run(Class<?> tests) {
        for (Method test : testsOf(tests)) {
            Checks.begin(test.getName());
            try {
                test.invoke(null);
            } catch (InvocationTargetException e) {
                Checks.good("the test comes to its end (" + e.getCause() + ")", false);
            } catch (IllegalAccessException e) {
                Checks.good("the test can be run (" + e + ")", false);
            }
        }
        Checks.end(tests.getSimpleName());
    }

    static List<Method> testsOf(Class<?> tests) {
        List<Method> found = new ArrayList<>();
        for (Method method : tests.getDeclaredMethods()) {
            if (method.isAnnotationPresent(Says.class)) {
                found.add(method);
            }
        }
        found.sort(Comparator.comparing(Method::getName));
        return found;
    }

    /** Loaves of 2, 3, 4, 5, 6 and 7 strands with 0, 1, 2, 3, 4 and 5 crossings. */
    static StrandLoaves sixLoaves() {
        return Checks.with("2:", "3:b+", "4:c-a+", "5:d+d+a-", "6:e+e-b+c+", "7:f-e-d-c-b-");
    }

    /** Five loaves, a latest stop, changes, a snapshot of other loaves, six saved states, and a buffer. */
    static StrandLoaves busyBoard() {
        StrandLoaves x = Checks.with("3:a+b-", "3:b+", "4:c+a-a+");
        Checks.works(x, "m0;l2;z5");
        x.keep();
        x.change(0, 1);
        x.bake(1);
        Checks.lay(x, FIRST_ABOVE_24);
        Checks.lay(x, FIRST_HIDES_15);
        Checks.works(x, "x0a+;j0/1");
        Checks.lay(x, "2:");
        Checks.type(x, "3:a");
        return x;
    }

    /** The strands of all loaves, in their order. */
    static String strandsOfAll(StrandLoaves x) {
        StringBuilder all = new StringBuilder();
        for (int i = 0; i < x.count(0); i++) {
            all.append(x.loaf(i, 0));
        }
        return all.toString();
    }

    static void dueStrandsOfAll(StrandLoaves x, String want) {
        String got = strandsOfAll(x);
        Checks.good("the strands of the loaves are " + want + " (they are " + got + ")", got.equals(want));
    }

    /** Both must answer alike, now and back through all saved states, and at the snapshot. */
    static void dueTwins(StrandLoaves x, StrandLoaves y) {
        Checks.due("digest()", x.digest(), y.digest());
        int saved = y.count(6);
        for (int i = 0; i < saved; i++) {
            Checks.due("undo()", x.undo(), y.undo());
            Checks.due("digest() behind undo()", x.digest(), y.digest());
        }
        Checks.due("restore()", x.restore(), y.restore());
        Checks.due("digest() behind restore()", x.digest(), y.digest());
    }
}
