/** The boundaries of promises 16 to 20, the calls that look; a test for each. */
public final class BoundaryLooksTest {
    private static final int[] NO_LOAVES = {-1, 2, 5, 6, Boundaries.LOW, Boundaries.HIGH};

    private BoundaryLooksTest() {
    }

    public static void main(String[] args) {
        Boundaries.run(BoundaryLooksTest.class);
    }

    private static StrandLoaves twoLoaves() {
        return Checks.with("4:c-b+a-", "2:");
    }

    // ---- the terms

    @Says("Ahead of the calls `crossing`, `strand`, `loaf`, `loose`, `count` the interface says: "
            + "---- looks; nothing is changed.")
    static void terms_looksChangeNothing() {
        StrandLoaves x = Boundaries.busyBoard();
        for (int loaf = 0; loaf < 5; loaf++) {
            for (int what = 0; what <= 10; what++) {
                x.loaf(loaf, what);
            }
            x.crossing(loaf, 0, 0);
            x.crossing(loaf, 23, 3);
            x.strand(loaf, 0, 0);
            x.strand(loaf, 6, 4);
            x.loose(loaf, 0);
            x.loose(loaf, 23);
        }
        for (int what = 0; what <= 6; what++) {
            x.count(what);
        }
        Boundaries.dueTwins(x, Boundaries.busyBoard());
    }

    // ---- 16: crossing

    @Says("`crossing`: 0 to 23")
    static void promise16_crossings0To23AreAnswered() {
        StrandLoaves x = Checks.with(Boundaries.LONGEST);
        for (int crossing = 0; crossing <= 23; crossing++) {
            Checks.due("crossing(0, " + crossing + ", 0)", x.crossing(0, crossing, 0), crossing % 6);
            Checks.due("crossing(0, " + crossing + ", 1)", x.crossing(0, crossing, 1), 1 - crossing % 2);
        }
    }

    @Says("`what`: 0: its place; 1: 1 if it is right, otherwise 0; 2: the strand that is hidden; "
            + "3: the strand that goes above")
    static void promise16_eachWhatTellsItsOwn() {
        StrandLoaves x = Checks.with("7:f+f+a-a-e+");
        int[][] want = {{5, 1, 6, 5}, {5, 1, 5, 6}, {0, 0, 0, 1}, {0, 0, 1, 0}, {4, 1, 5, 4}};
        for (int crossing = 0; crossing < want.length; crossing++) {
            for (int what = 0; what <= 3; what++) {
                Checks.due("crossing(0, " + crossing + ", " + what + ")", x.crossing(0, crossing, what),
                        want[crossing][what]);
            }
        }
    }

    @Says("Returns the number; NONE if the loaf has not so many.")
    static void promise16_fromTheNumberOfCrossingsOnItIsNone() {
        StrandLoaves x = twoLoaves();
        for (int what = 0; what <= 3; what++) {
            Checks.good("crossing(0, 2, " + what + ") is not NONE", x.crossing(0, 2, what) >= 0);
            Checks.due("crossing(0, 3, " + what + ")", x.crossing(0, 3, what), -1);
            Checks.due("crossing(0, 23, " + what + ")", x.crossing(0, 23, what), -1);
            Checks.due("crossing(1, 0, " + what + ") of an empty word", x.crossing(1, 0, what), -1);
        }
    }

    @Says("Returns the number; NONE if the loaf has not so many.")
    static void promise16_whatALongerWordLeftIsNone() {
        StrandLoaves x = Checks.with(Boundaries.LONGEST, "7:");
        x.back(0);
        Checks.due("crossing(0, 23, 0) behind back()", x.crossing(0, 23, 0), -1);
        x.bake(0);
        Checks.due("crossing(0, 0, 0) behind bake()", x.crossing(0, 0, 0), -1);
        Checks.due("crossing(0, 22, 2) behind bake()", x.crossing(0, 22, 2), -1);
    }

    @Says("Throws `IndexOutOfBoundsException` if there is no such loaf")
    static void promise16_noSuchLoafIsRefused() {
        StrandLoaves x = twoLoaves();
        for (int loaf : NO_LOAVES) {
            Checks.throwing(x, "crossing(" + loaf + ", 0, 0)", Checks.NO_SUCH, () -> x.crossing(loaf, 0, 0));
        }
    }

    @Says("Throws `IllegalArgumentException` if crossing or what is out of range")
    static void promise16_aCrossingOfLess1OrOf24IsRefused() {
        StrandLoaves x = Checks.with(Boundaries.LONGEST);
        for (int crossing : new int[] {-1, 24, Boundaries.LOW, Boundaries.HIGH}) {
            Checks.throwing(x, "crossing(0, " + crossing + ", 0)", Checks.ARGUMENT, () -> x.crossing(0, crossing, 0));
        }
    }

    @Says("Throws `IllegalArgumentException` if crossing or what is out of range")
    static void promise16_aWhatOfLess1OrOf4IsRefusedAlsoWithoutSuchACrossing() {
        StrandLoaves x = twoLoaves();
        for (int what : new int[] {-1, 4, Boundaries.LOW, Boundaries.HIGH}) {
            Checks.throwing(x, "crossing(0, 0, " + what + ")", Checks.ARGUMENT, () -> x.crossing(0, 0, what));
            Checks.throwing(x, "crossing(1, 23, " + what + ")", Checks.ARGUMENT, () -> x.crossing(1, 23, what));
        }
    }

    // ---- 17: strand

    @Says("`strand`: 0 to 6")
    static void promise17_strands0To6AreAnswered() {
        StrandLoaves x = Checks.with("7:a+b+c+d+e+f+");
        for (int strand = 0; strand <= 6; strand++) {
            Checks.due("strand(0, " + strand + ", 0)", x.strand(0, strand, 0), strand == 0 ? 6 : strand - 1);
        }
    }

    @Says("`what`: 0: the place in which it ends; 1: how often it is hidden; 2: how often it goes above; "
            + "3: the dough that it has left; 4: the strand that ends in the place of its number")
    static void promise17_eachWhatTellsItsOwn() {
        StrandLoaves x = Checks.with("7:a+b+c+d+e+f+", Boundaries.FIRST_ABOVE_24, Boundaries.BOTH_USED_UP);
        int[] first = {6, 0, 6, 24, 1};
        int[] last = {5, 1, 0, 28, 0};
        int[] above = {0, 0, 24, 6, 0};
        int[] usedUp = {0, 10, 10, 0, 0};
        for (int what = 0; what <= 4; what++) {
            Checks.due("strand(0, 0, " + what + ")", x.strand(0, 0, what), first[what]);
            Checks.due("strand(0, 6, " + what + ")", x.strand(0, 6, what), last[what]);
            Checks.due("strand(1, 0, " + what + ")", x.strand(1, 0, what), above[what]);
            Checks.due("strand(2, 0, " + what + ")", x.strand(2, 0, what), usedUp[what]);
        }
    }

    @Says("Returns the number; NONE if the loaf has no such strand.")
    static void promise17_fromTheNumberOfStrandsOnItIsNone() {
        StrandLoaves x = Checks.with("7:a+b+c+d+e+f+", "2:a+", "6:e-");
        x.bake(0);
        for (int what = 0; what <= 4; what++) {
            Checks.good("strand(0, 1, " + what + ") is not NONE", x.strand(0, 1, what) >= 0);
            Checks.due("strand(0, 2, " + what + ")", x.strand(0, 2, what), -1);
            Checks.due("strand(0, 6, " + what + ")", x.strand(0, 6, what), -1);
            Checks.good("strand(1, 5, " + what + ") is not NONE", x.strand(1, 5, what) >= 0);
            Checks.due("strand(1, 6, " + what + ")", x.strand(1, 6, what), -1);
        }
    }

    @Says("Throws `IndexOutOfBoundsException` if there is no such loaf")
    static void promise17_noSuchLoafIsRefused() {
        StrandLoaves x = twoLoaves();
        for (int loaf : NO_LOAVES) {
            Checks.throwing(x, "strand(" + loaf + ", 0, 0)", Checks.NO_SUCH, () -> x.strand(loaf, 0, 0));
        }
    }

    @Says("Throws `IllegalArgumentException` if strand or what is out of range")
    static void promise17_aStrandOfLess1OrOf7IsRefused() {
        StrandLoaves x = Checks.with("7:");
        for (int strand : new int[] {-1, 7, Boundaries.LOW, Boundaries.HIGH}) {
            Checks.throwing(x, "strand(0, " + strand + ", 0)", Checks.ARGUMENT, () -> x.strand(0, strand, 0));
        }
    }

    @Says("Throws `IllegalArgumentException` if strand or what is out of range")
    static void promise17_aWhatOfLess1OrOf5IsRefusedAlsoWithoutSuchAStrand() {
        StrandLoaves x = twoLoaves();
        for (int what : new int[] {-1, 5, Boundaries.LOW, Boundaries.HIGH}) {
            Checks.throwing(x, "strand(0, 0, " + what + ")", Checks.ARGUMENT, () -> x.strand(0, 0, what));
            Checks.throwing(x, "strand(1, 6, " + what + ")", Checks.ARGUMENT, () -> x.strand(1, 6, what));
        }
    }

    // ---- 18: loaf

    private static void dueLoaf(String text, int what, int want) {
        Checks.due("loaf(0, " + what + ") of " + text, Checks.with(text).loaf(0, what), want);
    }

    @Says("`what`: 0: its strands; ")
    static void promise18_strandsAre2To7() {
        for (int strands = 2; strands <= 7; strands++) {
            dueLoaf(strands + ":a+", 0, strands);
        }
    }

    @Says("1: its crossings; ")
    static void promise18_crossingsAre0To24() {
        dueLoaf("2:", 1, 0);
        dueLoaf("2:a+a-", 1, 2);
        dueLoaf(Boundaries.LONGEST, 1, 24);
    }

    @Says("2: right ones less left ones, and 100 more; ")
    static void promise18_rightLessLeftGoesFrom76To124() {
        dueLoaf("2:", 2, 100);
        dueLoaf("2:a+", 2, 101);
        dueLoaf("2:a-", 2, 99);
        dueLoaf("2:a+a-", 2, 100);
        dueLoaf("7:" + "a+b+c+d+e+f+".repeat(4), 2, 124);
        dueLoaf("7:" + "f-e-d-c-b-a-".repeat(4), 2, 76);
    }

    @Says("3: rings of it closed, told by going round; ")
    static void promise18_ringsByGoingRoundAre1To7() {
        dueLoaf("7:", 3, 7);
        dueLoaf("2:", 3, 2);
        dueLoaf("2:a-", 3, 1);
        dueLoaf("7:f+e+d+c+b+a+", 3, 1);
        dueLoaf("7:a+c+e+", 3, 4);
    }

    @Says("4: the same, told by joining; ")
    static void promise18_ringsByJoiningAre1To7() {
        dueLoaf("7:", 4, 7);
        dueLoaf("2:", 4, 2);
        dueLoaf("2:a-", 4, 1);
        dueLoaf("7:f+e+d+c+b+a+", 4, 1);
        dueLoaf("7:a+c+e+", 4, 4);
    }

    @Says("5: the crossings of its short word, told by going once; ")
    static void promise18_theShortWordToldByGoingOnceHas0To24() {
        dueLoaf("2:", 5, 0);
        dueLoaf("2:a+a-", 5, 0);
        dueLoaf("4:a+c-a-c+", 5, 4);
        dueLoaf(Boundaries.FIRST_ABOVE_24, 5, 0);
        dueLoaf(Boundaries.LONGEST, 5, 24);
    }

    @Says("6: the same, told by looking again and again; ")
    static void promise18_theShortWordToldByLookingHas0To24() {
        dueLoaf("2:", 6, 0);
        dueLoaf("2:a+a-", 6, 0);
        dueLoaf("4:a+c-a-c+", 6, 4);
        dueLoaf(Boundaries.FIRST_ABOVE_24, 6, 0);
        dueLoaf(Boundaries.LONGEST, 6, 24);
    }

    @Says("7: the crossings of its loose word; ")
    static void promise18_theLooseWordHas0To24() {
        dueLoaf("2:", 7, 0);
        dueLoaf("4:a+c-a-c+", 7, 0);
        dueLoaf("4:c+a-", 7, 2);
        dueLoaf(Boundaries.LONGEST, 7, 24);
    }

    @Says("8: 1 if each strand ends in its own place, otherwise 0; ")
    static void promise18_oneStrandAwayFromHomeIsEnough() {
        dueLoaf("7:", 8, 1);
        dueLoaf("2:a+a+", 8, 1);
        dueLoaf("7:f+", 8, 0);
        dueLoaf("7:a+", 8, 0);
        dueLoaf("3:a+b+a+b+", 8, 0);
        dueLoaf("3:" + "a+b+".repeat(3), 8, 1);
    }

    @Says("9: the strand that hides the most (that is hidden most often), of several the lowest; ")
    static void promise18_ofSeveralThatHideTheMostItIsTheLowest() {
        dueLoaf("7:", 9, 0);
        dueLoaf("2:a+a+", 9, 0);
        dueLoaf("2:a+", 9, 1);
        dueLoaf("7:f+f-", 9, 6);
        dueLoaf("7:a+f+", 9, 1);
        dueLoaf("3:a+a+b+", 9, 0);
        dueLoaf("4:c-b-", 9, 1);
        dueLoaf("4:c-b-a+a-", 9, 3);
        dueLoaf(Boundaries.FIRST_ABOVE_24, 9, 1);
    }

    @Says("10: the first loaf that is alike (itself perhaps)")
    static void promise18_theFirstThatIsAlikeMayBeItselfOrTheVeryFirst() {
        StrandLoaves x = Checks.with("4:a+c+", "4:", "4:c+a+", "5:a+c+", "4:b+b-a+c+", "4:c-");
        int[] want = {0, 1, 0, 3, 0, 5};
        for (int loaf = 0; loaf <= 5; loaf++) {
            Checks.due("loaf(" + loaf + ", 10)", x.loaf(loaf, 10), want[loaf]);
        }
        x.bake(0);
        Checks.due("loaf(1, 10) behind bake(0)", x.loaf(1, 10), 1);
        Checks.due("loaf(3, 10) behind bake(0)", x.loaf(3, 10), 1);
    }

    @Says("Throws `IndexOutOfBoundsException` if there is no such loaf")
    static void promise18_noSuchLoafIsRefused() {
        StrandLoaves x = twoLoaves();
        for (int loaf : NO_LOAVES) {
            Checks.throwing(x, "loaf(" + loaf + ", 0)", Checks.NO_SUCH, () -> x.loaf(loaf, 0));
            Checks.throwing(x, "loaf(" + loaf + ", 10)", Checks.NO_SUCH, () -> x.loaf(loaf, 10));
        }
    }

    @Says("Throws `IllegalArgumentException` if what is not 0 to 10")
    static void promise18_aWhatOfLess1OrOf11IsRefused() {
        StrandLoaves x = twoLoaves();
        for (int what : new int[] {-1, 11, Boundaries.LOW, Boundaries.HIGH}) {
            Checks.throwing(x, "loaf(0, " + what + ")", Checks.ARGUMENT, () -> x.loaf(0, what));
        }
        Checks.due("loaf(0, 10)", x.loaf(0, 10), 0);
    }

    // ---- 19: loose

    @Says("`crossing`: 0 to 23")
    static void promise19_crossings0To23AreAnswered() {
        StrandLoaves x = Checks.with(Boundaries.LONGEST);
        for (int crossing = 0; crossing <= 23; crossing++) {
            Checks.good("loose(0, " + crossing + ") is not NONE", x.loose(0, crossing) >= 0);
        }
        StrandLoaves y = Checks.with("7:" + "f+a-".repeat(12));
        for (int crossing = 0; crossing <= 23; crossing++) {
            Checks.due("loose(0, " + crossing + ")", y.loose(0, crossing), crossing < 12 ? 0 : 11);
        }
    }

    @Says("Returns 2 times its place, and 1 more if it is right; ")
    static void promise19_codesGoFrom0To11() {
        StrandLoaves x = Checks.with("7:a-b+c-d+e-f+", "7:a+b-c+d-e+f-", "2:a-");
        int[] first = {0, 3, 4, 7, 8, 11};
        int[] second = {1, 2, 5, 6, 9, 10};
        for (int crossing = 0; crossing <= 5; crossing++) {
            Checks.due("loose(0, " + crossing + ")", x.loose(0, crossing), first[crossing]);
            Checks.due("loose(1, " + crossing + ")", x.loose(1, crossing), second[crossing]);
        }
        Checks.due("loose(2, 0)", x.loose(2, 0), 0);
    }

    @Says("NONE if the loose word has not so many.")
    static void promise19_fromTheLengthOfTheLooseWordOnItIsNone() {
        StrandLoaves x = Checks.with("4:a+c-a-b+", "3:a+a-", "2:");
        Checks.due("loose(0, 1)", x.loose(0, 1), 3);
        for (int crossing = 2; crossing <= 23; crossing++) {
            Checks.due("loose(0, " + crossing + ")", x.loose(0, crossing), -1);
        }
        Checks.due("loose(1, 0)", x.loose(1, 0), -1);
        Checks.due("loose(2, 0)", x.loose(2, 0), -1);
    }

    @Says("Throws `IndexOutOfBoundsException` if there is no such loaf")
    static void promise19_noSuchLoafIsRefused() {
        StrandLoaves x = twoLoaves();
        for (int loaf : NO_LOAVES) {
            Checks.throwing(x, "loose(" + loaf + ", 0)", Checks.NO_SUCH, () -> x.loose(loaf, 0));
        }
    }

    @Says("Throws `IllegalArgumentException` if crossing is out of range")
    static void promise19_aCrossingOfLess1OrOf24IsRefused() {
        StrandLoaves x = Checks.with(Boundaries.LONGEST, "2:");
        for (int crossing : new int[] {-1, 24, Boundaries.LOW, Boundaries.HIGH}) {
            Checks.throwing(x, "loose(0, " + crossing + ")", Checks.ARGUMENT, () -> x.loose(0, crossing));
            Checks.throwing(x, "loose(1, " + crossing + ")", Checks.ARGUMENT, () -> x.loose(1, crossing));
        }
    }

    // ---- 20: count

    @Says("`what`: 0: loaves; ")
    static void promise20_loavesAre0To6() {
        StrandLoaves x = new StrandLoaves();
        for (int loaves = 0; loaves <= 6; loaves++) {
            Checks.due("count(0)", x.count(0), loaves);
            if (loaves < 6) {
                Checks.lay(x, "2:a+");
            }
        }
    }

    @Says("1: crossings of all; ")
    static void promise20_crossingsOfAllAre0To144() {
        StrandLoaves x = new StrandLoaves();
        Checks.due("count(1) without loaves", x.count(1), 0);
        for (int loaf = 0; loaf < 6; loaf++) {
            Checks.lay(x, Boundaries.LONGEST);
            Checks.due("count(1)", x.count(1), 24 * (loaf + 1));
        }
        Checks.due("count(1) of empty words", Checks.with("2:", "7:").count(1), 0);
    }

    @Says("2: dough used by all strands, told by strands; ")
    static void promise20_doughToldByStrandsIs0To432() {
        StrandLoaves x = new StrandLoaves();
        Checks.due("count(2) without loaves", x.count(2), 0);
        for (int loaf = 0; loaf < 6; loaf++) {
            Checks.lay(x, Boundaries.LONGEST);
            Checks.due("count(2)", x.count(2), 72 * (loaf + 1));
        }
        Checks.due("count(2) of all dough", Checks.with(Boundaries.BOTH_USED_UP, "2:").count(2), 60);
    }

    @Says("3: the same, told by crossings; ")
    static void promise20_doughToldByCrossingsIs0To432() {
        StrandLoaves x = new StrandLoaves();
        Checks.due("count(3) without loaves", x.count(3), 0);
        for (int loaf = 0; loaf < 6; loaf++) {
            Checks.lay(x, Boundaries.LONGEST);
            Checks.due("count(3)", x.count(3), 72 * (loaf + 1));
        }
        Checks.due("count(3) of all dough", Checks.with(Boundaries.BOTH_USED_UP, "2:").count(3), 60);
    }

    @Says("4: kinds of loaves: how many there are of which none before is alike; ")
    static void promise20_kindsAre0To6() {
        Checks.due("count(4) without loaves", new StrandLoaves().count(4), 0);
        Checks.due("count(4) of one kind", Checks.with("2:", "2:a+a-", "2:a-a+", "2:", "2:", "2:").count(4), 1);
        Checks.due("count(4) of six", Checks.with("2:", "3:", "2:a+", "2:a-", "3:a+b+", "3:b+a+").count(4), 6);
        Checks.due("count(4) of two in turns", Checks.with("3:", "4:", "3:", "4:", "3:", "4:").count(4), 2);
    }

    @Says("5: changes so far (by change() and such parts); ")
    static void promise20_changesOfBothWaysAreCountedAndNothingElse() {
        StrandLoaves x = Checks.with("2:", Boundaries.FIRST_ABOVE_24);
        Checks.due("count(5) at first", x.count(5), 0);
        for (int how = 0; how <= 3; how++) {
            x.change(0, how);
            Checks.due("count(5) behind change(0, " + how + ")", x.count(5), how + 1);
        }
        Checks.works(x, "m0;t0;r0;l0");
        Checks.due("count(5) behind four parts", x.count(5), 8);
        Checks.works(x, "x0a+;j0/0;z0;m5");
        Checks.works(x, "r0;m1;r0");
        Checks.due("count(5) behind one more, and a stop", x.count(5), 9);
        Checks.throwing(x, "change(1, 0)", Checks.STATE, () -> x.change(1, 0));
        Checks.due("count(5) behind a refused one", x.count(5), 9);
        x.cross(0, 0, true);
        x.join(0, 0);
        x.back(0);
        x.bake(1);
        Checks.due("count(5) behind other calls", x.count(5), 9);
    }

    @Says("5: changes so far (by change() and such parts); ")
    static void promise20_changesThatLeaveTheWordAsItIsAreCountedToo() {
        StrandLoaves x = Checks.with("4:b+", "2:");
        x.change(0, 1);
        x.change(0, 3);
        Checks.works(x, "t0;l0;m1;t1;r1;l1");
        Checks.dueText(x, 0, "4:b+");
        Checks.due("count(5)", x.count(5), 8);
    }

    @Says("5: changes so far (by change() and such parts); ")
    static void promise20_changesOfALoafThatGoesStayCounted() {
        StrandLoaves x = Checks.with("2:");
        x.change(0, 0);
        x.bake(0);
        Checks.due("count(5)", x.count(5), 1);
    }

    @Says("6: saved states")
    static void promise20_savedStatesAre0To6() {
        StrandLoaves x = new StrandLoaves();
        Checks.due("count(6) at first", x.count(6), 0);
        x.keep();
        for (int calls = 1; calls <= 9; calls++) {
            x.restore();
            Checks.due("count(6)", x.count(6), Math.min(calls, 6));
        }
        x.undo();
        Checks.due("count(6) behind undo()", x.count(6), 5);
    }

    @Says("Throws `IllegalArgumentException` if what is not 0 to 6")
    static void promise20_aWhatOfLess1OrOf7IsRefused() {
        StrandLoaves x = twoLoaves();
        for (int what : new int[] {-1, 7, Boundaries.LOW, Boundaries.HIGH}) {
            Checks.throwing(x, "count(" + what + ")", Checks.ARGUMENT, () -> x.count(what));
        }
        Checks.due("count(6)", x.count(6), 2);
    }
}
