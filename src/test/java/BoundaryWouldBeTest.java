/** The boundaries of promises 21 to 26, the calls that tell what would be, and the hash; a test for each. */
public final class BoundaryWouldBeTest {
    private static final int[] NO_LOAVES = {-1, 2, 5, 6, Boundaries.LOW, Boundaries.HIGH};

    private BoundaryWouldBeTest() {
    }

    public static void main(String[] args) {
        Boundaries.run(BoundaryWouldBeTest.class);
    }

    private static StrandLoaves twoLoaves() {
        return Checks.with("4:c-b+a-", "2:");
    }

    // ---- the terms

    @Says("Ahead of the calls `whyNot`, `ifChanged`, `alike`, `period`, `looseShare`, `digest` the interface says: "
            + "---- what would be; nothing is changed.")
    static void terms_whatWouldBeChangesNothing() {
        StrandLoaves x = Boundaries.busyBoard();
        for (int loaf = 0; loaf < 5; loaf++) {
            x.whyNot(loaf, 0, true);
            x.whyNot(loaf, 0, false);
            x.period(loaf);
            for (int how = 0; how <= 3; how++) {
                x.ifChanged(loaf, how);
            }
            for (int other = 0; other < 5; other++) {
                x.alike(loaf, other);
            }
        }
        x.looseShare();
        x.digest();
        Boundaries.dueTwins(x, Boundaries.busyBoard());
    }

    // ---- 21: whyNot

    @Says("`place`: 0 to the strands less 2")
    static void promise21_thePlacesFrom0ToTheStrandsLess2AreAnswered() {
        for (int strands = 2; strands <= 7; strands++) {
            StrandLoaves x = Checks.with(strands + ":");
            for (int place = 0; place <= strands - 2; place++) {
                Checks.due("whyNot(0, " + place + ", true) of " + strands, x.whyNot(0, place, true), 0);
            }
        }
    }

    @Says("`isRight`: whether it would be right")
    static void promise21_itMayDependOnTheSide() {
        StrandLoaves x = Checks.with(Boundaries.FIRST_USES_29, "2:" + "a+a-".repeat(7) + "a-");
        Checks.due("whyNot(0, 0, true): strand 0 would hide", x.whyNot(0, 0, true), 2);
        Checks.due("whyNot(0, 0, false): strand 0 would go above", x.whyNot(0, 0, false), 0);
        Checks.due("whyNot(1, 0, true): strand 1 would go above", x.whyNot(1, 0, true), 0);
        Checks.due("whyNot(1, 0, false): strand 1 would hide", x.whyNot(1, 0, false), 2);
    }

    @Says("Returns the reason, 1 or 2; ")
    static void promise21_reason1BeginsWith24Crossings() {
        StrandLoaves x = Checks.with(Boundaries.LONGEST);
        for (int place = 0; place <= 5; place++) {
            Checks.due("whyNot(0, " + place + ", true)", x.whyNot(0, place, true), 1);
        }
        x.back(0);
        Checks.due("whyNot(0, 0, true) behind 23", x.whyNot(0, 0, true), 0);
    }

    @Says("Returns the reason, 1 or 2; ")
    static void promise21_reason2BeginsWith31OfDough() {
        StrandLoaves x = Checks.with(Boundaries.FIRST_HIDES_15, Boundaries.FIRST_USES_29, Boundaries.BOTH_USED_UP,
                Boundaries.LAST_HIDES_15);
        Checks.due("whyNot(0, 0, true)", x.whyNot(0, 0, true), 2);
        Checks.due("whyNot(0, 0, false)", x.whyNot(0, 0, false), 2);
        Checks.due("whyNot(1, 0, true)", x.whyNot(1, 0, true), 2);
        Checks.due("whyNot(2, 0, false)", x.whyNot(2, 0, false), 2);
        Checks.due("whyNot(3, 5, true)", x.whyNot(3, 5, true), 2);
        Checks.due("whyNot(3, 4, false)", x.whyNot(3, 4, false), 2);
    }

    @Says("Returns the reason, 1 or 2; ")
    static void promise21_ofBothReasonsItIs1() {
        StrandLoaves x = Checks.with(Boundaries.FULL_WITHOUT_DOUGH);
        Checks.due("whyNot(0, 0, true)", x.whyNot(0, 0, true), 1);
        Checks.due("whyNot(0, 1, false)", x.whyNot(0, 1, false), 1);
    }

    @Says("0 if it can.")
    static void promise21_withTheLastOfTheDoughItCan() {
        StrandLoaves x = Checks.with(Boundaries.FIRST_USES_29, Boundaries.FIRST_USES_28, Boundaries.LAST_HIDES_15,
                "2:");
        Checks.due("whyNot(0, 0, false): above with 1", x.whyNot(0, 0, false), 0);
        Checks.due("whyNot(1, 0, false): hidden with 2", x.whyNot(1, 0, false), 0);
        Checks.due("whyNot(2, 3, true): beside the one without", x.whyNot(2, 3, true), 0);
        Checks.due("whyNot(3, 0, true)", x.whyNot(3, 0, true), 0);
    }

    @Says("Throws `IndexOutOfBoundsException` if there is no such loaf or place")
    static void promise21_noSuchLoafIsRefused() {
        StrandLoaves x = twoLoaves();
        for (int loaf : NO_LOAVES) {
            Checks.throwing(x, "whyNot(" + loaf + ", 0, true)", Checks.NO_SUCH, () -> x.whyNot(loaf, 0, true));
        }
    }

    @Says("Throws `IndexOutOfBoundsException` if there is no such loaf or place")
    static void promise21_noSuchPlaceIsRefusedAlsoOfAFullLoaf() {
        StrandLoaves x = Checks.with("2:", "7:", Boundaries.FIRST_ABOVE_24);
        int[] beyond = {1, 6, 2};
        for (int loaf = 0; loaf <= 2; loaf++) {
            int which = loaf;
            for (int place : new int[] {-1, beyond[loaf], 7, Boundaries.LOW, Boundaries.HIGH}) {
                Checks.throwing(x, "whyNot(" + loaf + ", " + place + ")", Checks.NO_SUCH,
                        () -> x.whyNot(which, place, true));
            }
        }
    }

    // ---- 22: ifChanged

    @Says("Tells how many crossings the loose word would have behind a change.")
    static void promise22_itIsTheLooseWordThatIsCounted() {
        StrandLoaves x = Checks.with("4:a+c-a-b+", "2:", Boundaries.LONGEST, "3:a+a-");
        int[] want = {2, 0, 24, 0};
        for (int loaf = 0; loaf < want.length; loaf++) {
            for (int how = 0; how <= 3; how++) {
                Checks.due("ifChanged(" + loaf + ", " + how + ")", x.ifChanged(loaf, how), want[loaf]);
            }
        }
    }

    @Says("`how`: 0 to 3, as change() has it")
    static void promise22_itIsWhatTheLooseWordHasBehindTheChange() {
        for (int how = 0; how <= 3; how++) {
            StrandLoaves x = Checks.with("5:d+b-a+d-c+c-b+");
            int told = x.ifChanged(0, how);
            x.change(0, how);
            Checks.due("loaf(0, 7) behind change(0, " + how + ")", x.loaf(0, 7), told);
        }
    }

    @Says("Returns how many, also if the change could not be made.")
    static void promise22_aChangeThatCouldNotBeMadeIsTold() {
        StrandLoaves x = Checks.with(Boundaries.FIRST_ABOVE_24, "3:" + "a+b+b-a-".repeat(5) + "a+b+b-");
        for (int how = 0; how <= 1; how++) {
            int which = how;
            Checks.throwing(x, "change(0, " + how + ")", Checks.STATE, () -> x.change(0, which));
            Checks.due("ifChanged(0, " + how + ")", x.ifChanged(0, how), 0);
            Checks.throwing(x, "change(1, " + how + ")", Checks.STATE, () -> x.change(1, which));
            Checks.due("ifChanged(1, " + how + ")", x.ifChanged(1, how), 1);
        }
    }

    @Says("Throws `IndexOutOfBoundsException` if there is no such loaf")
    static void promise22_noSuchLoafIsRefused() {
        StrandLoaves x = twoLoaves();
        for (int loaf : NO_LOAVES) {
            Checks.throwing(x, "ifChanged(" + loaf + ", 0)", Checks.NO_SUCH, () -> x.ifChanged(loaf, 0));
        }
    }

    @Says("Throws `IllegalArgumentException` if how is not 0 to 3")
    static void promise22_aHowOfLess1OrOf4IsRefused() {
        StrandLoaves x = twoLoaves();
        for (int how : new int[] {-1, 4, Boundaries.LOW, Boundaries.HIGH}) {
            Checks.throwing(x, "ifChanged(0, " + how + ")", Checks.ARGUMENT, () -> x.ifChanged(0, how));
        }
        Checks.due("ifChanged(0, 3)", x.ifChanged(0, 3), 3);
    }

    // ---- 23: alike

    private static void dueAlike(String one, String other, int want) {
        StrandLoaves x = Checks.with(one, other);
        Checks.due("alike(0, 1) of " + one + " and " + other, x.alike(0, 1), want);
    }

    @Says("Tells whether two loaves are alike.")
    static void promise23_aLoafIsAlikeItself() {
        StrandLoaves x = Checks.with("2:", "3:a+b+", Boundaries.LONGEST);
        for (int loaf = 0; loaf <= 2; loaf++) {
            Checks.due("alike(" + loaf + ", " + loaf + ")", x.alike(loaf, loaf), 1);
        }
    }

    @Says("Returns 1 if they are, ")
    static void promise23_sameLooseWordsAreAlike() {
        dueAlike("4:a+c-", "4:c-a+", 1);
        dueAlike("4:", "4:b+b-", 1);
        dueAlike("2:a+", "2:a+", 1);
    }

    @Says("2 if the second one is alike the first one mirrored, ")
    static void promise23_theSecondAlikeTheFirstMirrored() {
        dueAlike("3:a+b+", "3:a-b-", 2);
        dueAlike("4:c+a-", "4:c-a+", 2);
        dueAlike(Boundaries.LONGEST, "7:" + "a-b+c-d+e-f+".repeat(4), 2);
    }

    @Says("3 if turned, ")
    static void promise23_theSecondAlikeTheFirstTurned() {
        dueAlike("3:a+b+", "3:b+a+", 3);
        dueAlike("4:a+a+b-", "4:c+c+b-", 3);
        dueAlike(Boundaries.LONGEST, "7:" + "f+e-d+c-b+a-".repeat(4), 3);
    }

    @Says("4 if gone through the other way ")
    static void promise23_theSecondAlikeTheFirstGoneThroughTheOtherWay() {
        dueAlike("3:a+b+", "3:b-a-", 4);
        dueAlike("3:a+a+b-", "3:b+a-a-", 4);
        dueAlike("4:a+b+c-", "4:c+b-a-", 4);
    }

    @Says("(the first of these that is so); ")
    static void promise23_ofSeveralTheFirstIsTold() {
        dueAlike("2:", "2:", 1);
        dueAlike("4:b+", "4:b+", 1);
        dueAlike("2:a+", "2:a-", 2);
        dueAlike("3:a+b-", "3:b+a-", 3);
        dueAlike("3:a+b-a+", "3:a-b+a-", 2);
        dueAlike("5:a+d-", "5:a-d+", 2);
    }

    @Says("0 otherwise.")
    static void promise23_loavesOfOtherStrandsAndOtherWordsAreNot() {
        dueAlike("2:", "3:", 0);
        dueAlike("3:a+", "4:a+", 0);
        dueAlike("3:a+", "3:", 0);
        dueAlike("3:a+b+", "3:a+b-", 0);
        dueAlike("3:a+", "3:a+a+", 0);
        dueAlike("3:a+b-", "3:b-a+", 0);
    }

    @Says("Returns 1 if they are, ")
    static void promise23_aChangeThatCouldNotBeMadeIsToldToo() {
        StrandLoaves x = Checks.with("3:" + "a+b+b-a-".repeat(5) + "a+b+", "3:a-b-", "3:b+a+", "3:b-a-", "3:a+b+");
        Checks.throwing(x, "change(0, 0)", Checks.STATE, () -> x.change(0, 0));
        Checks.due("alike(0, 1)", x.alike(0, 1), 2);
        Checks.due("alike(0, 2)", x.alike(0, 2), 3);
        Checks.due("alike(0, 3)", x.alike(0, 3), 4);
        Checks.due("alike(0, 4)", x.alike(0, 4), 1);
    }

    @Says("Throws `IndexOutOfBoundsException` if there is no such loaf")
    static void promise23_noSuchFirstOrSecondLoafIsRefused() {
        StrandLoaves x = twoLoaves();
        for (int loaf : NO_LOAVES) {
            Checks.throwing(x, "alike(" + loaf + ", 0)", Checks.NO_SUCH, () -> x.alike(loaf, 0));
            Checks.throwing(x, "alike(0, " + loaf + ")", Checks.NO_SUCH, () -> x.alike(0, loaf));
        }
        StrandLoaves y = new StrandLoaves();
        Checks.throwing(y, "alike(0, 0) of none", Checks.NO_SUCH, () -> y.alike(0, 0));
    }

    // ---- 24: period

    private static void duePeriod(String text, int want) {
        Checks.due("period(0) of " + text, Checks.with(text).period(0), want);
    }

    @Says("Tells how often a loaf has to be joined to itself, until each strand ends in its own place.")
    static void promise24_atThePeriodAllAreHomeAndNotBefore() {
        StrandLoaves x = Checks.with("5:a+b+d-", "5:");
        Checks.due("period(0)", x.period(0), 6);
        for (int times = 1; times <= 6; times++) {
            x.join(1, 0);
            Checks.due("loaf(1, 8) behind " + times, x.loaf(1, 8), times == 6 ? 1 : 0);
        }
        Checks.due("period(1)", x.period(1), 1);
    }

    @Says("Returns how many times its word must be there, 1 or more ")
    static void promise24_itIs1IfAllAreHomeAnd12AtMost() {
        duePeriod("7:", 1);
        duePeriod("2:", 1);
        duePeriod("2:a+a+", 1);
        duePeriod("2:a+", 2);
        duePeriod("7:f-", 2);
        duePeriod("7:a+b+c+d+e+f+", 7);
        duePeriod("7:a+b+c+d+f+", 10);
        duePeriod("7:a+b+d+e+f+", 12);
        duePeriod("7:a+c+d+f+", 6);
        duePeriod("6:a+c+e+", 2);
        duePeriod("6:a+c+d+e+", 4);
    }

    @Says("(whatever the length and the dough).")
    static void promise24_itIsToldAlsoIfTheWordCouldNotBeThereSoOften() {
        StrandLoaves x = Checks.with(Boundaries.LONGEST, Boundaries.FIRST_HIDES_15);
        Checks.due("period(0) of 24 crossings", x.period(0), 7);
        Checks.throwing(x, "join(0, 0)", Checks.STATE, () -> x.join(0, 0));
        Checks.due("period(1) without dough", x.period(1), 2);
        Checks.throwing(x, "join(1, 1)", Checks.STATE, () -> x.join(1, 1));
        StrandLoaves y = Checks.with("7:a+b+d+e+f+" + "a-a-c-c-e-e-".repeat(3));
        Checks.due("period(0) of 23 crossings", y.period(0), 12);
    }

    @Says("Throws `IndexOutOfBoundsException` if there is no such loaf")
    static void promise24_noSuchLoafIsRefused() {
        StrandLoaves x = twoLoaves();
        for (int loaf : NO_LOAVES) {
            Checks.throwing(x, "period(" + loaf + ")", Checks.NO_SUCH, () -> x.period(loaf));
        }
    }

    // ---- 25: looseShare

    private static void dueShare(double want, String... loaves) {
        Checks.dueNearly("looseShare() of " + String.join(" ", loaves), Checks.with(loaves).looseShare(), want);
    }

    @Says("Returns the crossings of all loose words, as a double, divided by those of all words; ")
    static void promise25_theShareGoesFrom0To1() {
        dueShare(0.0, "2:a+a-");
        dueShare(0.0, "2:a+a-", "3:", Boundaries.FIRST_ABOVE_24);
        dueShare(1.0, "2:a+a+", "3:b-");
        dueShare(1.0, Boundaries.LONGEST, Boundaries.LONGEST, Boundaries.LONGEST);
        dueShare(1.0 / 3.0, "3:a+b+b-");
        dueShare(4.0 / 6.0, "3:a+b+b-", "4:c+a+b-");
        dueShare(24.0 / 48.0, Boundaries.LONGEST, Boundaries.FIRST_ABOVE_24);
    }

    @Says("1.0 without any.")
    static void promise25_withoutCrossingsItIs1() {
        dueShare(1.0);
        dueShare(1.0, "2:");
        dueShare(1.0, "2:", "3:", "4:", "5:", "6:", "7:");
        StrandLoaves x = Checks.with("2:a+a-");
        x.change(0, 3);
        Checks.dueNearly("looseShare() behind loosening to nothing", x.looseShare(), 1.0);
    }

    // ---- 26: digest

    /** The hash as DOC.md tells it, out of the answers of the other calls; the buffer is what the caller typed. */
    private static long hashOf(StrandLoaves x, String buffer) {
        long hash = 4051;
        for (int what = 0; what <= 6; what++) {
            hash = 31 * hash + x.count(what);
        }
        for (int loaf = 0; loaf < x.count(0); loaf++) {
            hash = hashOfLoaf(x, loaf, hash);
        }
        hash = 31 * (31 * hash + x.stopped(0)) + x.stopped(1);
        hash = 31 * hash + Double.doubleToLongBits(x.looseShare());
        hash = 31 * hash + buffer.length();
        for (char sign : buffer.toCharArray()) {
            hash = 31 * hash + sign;
        }
        return hash;
    }

    private static long hashOfLoaf(StrandLoaves x, int loaf, long before) {
        long hash = before;
        for (int what = 0; what <= 10; what++) {
            hash = 31 * hash + x.loaf(loaf, what);
        }
        hash = 31 * hash + x.period(loaf);
        for (int how = 0; how <= 3; how++) {
            hash = 31 * hash + x.ifChanged(loaf, how);
        }
        for (int i = 0; i < 4 * x.loaf(loaf, 1); i++) {
            hash = 31 * hash + x.crossing(loaf, i / 4, i % 4);
        }
        for (int i = 0; i < x.loaf(loaf, 7); i++) {
            hash = 31 * hash + x.loose(loaf, i);
        }
        for (int i = 0; i < 5 * x.loaf(loaf, 0); i++) {
            hash = 31 * hash + x.strand(loaf, i / 5, i % 5);
        }
        for (int other = 0; other < x.count(0); other++) {
            hash = 31 * hash + x.alike(loaf, other);
        }
        return hash;
    }

    @Says("Computes a hash of the whole state. The hash starts at 4051.")
    static void promise26_theHashOfANewObject() {
        long want = 4051;
        for (long value : new long[] {0, 0, 0, 0, 0, 0, 0, -1, -1, 0x3FF0000000000000L, 0}) {
            want = 31 * want + value;
        }
        Checks.due("digest()", new StrandLoaves().digest(), want);
    }

    @Says("For each value v of the following list, in order, the hash becomes 31 * hash + v, "
            + "in long arithmetic with overflow.")
    static void promise26_theHashOfLongWordsWrapsAround() {
        StrandLoaves x = Checks.with(Boundaries.LONGEST);
        Checks.due("digest()", x.digest(), hashOf(x, ""));
    }

    @Says("The values are: count(0) to count(6); for each loaf its numbers 0 to 10, period, ifChanged with 0 to 3, "
            + "each of its crossings with 0 to 3, each crossing of its loose word, each of its strands with 0 to 4, "
            + "and alike with each loaf; stopped with 0 and 1; ")
    static void promise26_theHashOfSeveralLoavesAndAStop() {
        StrandLoaves x = Checks.with("2:", "4:c+a-a+", "4:b+");
        Checks.works(x, "m2;r1;z0");
        Checks.due("digest()", x.digest(), hashOf(x, ""));
        StrandLoaves y = Checks.with("7:");
        Checks.due("digest() of an empty word", y.digest(), hashOf(y, ""));
    }

    @Says("the bits of looseShare (as Double.doubleToLongBits); ")
    static void promise26_theHashOfEachShareThatTwoShortWordsMayHave() {
        String[] loose = {"", "a+", "a+a+", "a+a+a+", "a+a+a+a+", "a+a+a+a+a+", "a+a+a+a+a+a+", "a+a+a+a+a+a+a+"};
        String[] gone = {"", "b+b-", "b+b-b+b-", "b+b-b+b-b+b-"};
        for (String one : loose) {
            for (String other : gone) {
                StrandLoaves x = Checks.with("7:" + one, "7:" + other);
                Checks.due("digest() of " + one + " and " + other, x.digest(), hashOf(x, ""));
            }
        }
    }

    @Says("the length of the buffer and each of its character codes.")
    static void promise26_theHashOfAFullBufferAndOfOneThatWasLonger() {
        StrandLoaves x = new StrandLoaves();
        String all = "!~".repeat(30);
        Checks.type(x, all);
        Checks.due("digest() of 60 characters", x.digest(), hashOf(x, all));
        x.clearBuffer();
        Checks.due("digest() of none", x.digest(), hashOf(x, ""));
        Checks.type(x, "a");
        Checks.due("digest() of one", x.digest(), hashOf(x, "a"));
    }

    @Says("Returns the hash.")
    static void promise26_theHashIsTheSameAgain() {
        StrandLoaves x = Boundaries.busyBoard();
        StrandLoaves y = Boundaries.busyBoard();
        Checks.due("digest()", x.digest(), y.digest());
        Checks.due("digest() again", x.digest(), y.digest());
        x.clearBuffer();
        Checks.good("another buffer has another hash", x.digest() != y.digest());
    }
}
