/** The boundaries of promises 1 to 7: a new object, and the calls that change loaves; a test for each. */
public final class BoundaryLoavesTest {
    private static final int[] NO_LOAVES = {-1, 3, 5, 6, Boundaries.LOW, Boundaries.HIGH};

    private BoundaryLoavesTest() {
    }

    public static void main(String[] args) {
        Boundaries.run(BoundaryLoavesTest.class);
    }

    private static StrandLoaves threeLoaves() {
        return Checks.with("2:", "3:a+b-", "4:c-");
    }

    // ---- 1: a new object

    @Says("Creates a board without loaves")
    static void promise01_aNewObjectHasNoLoaves() {
        StrandLoaves x = new StrandLoaves();
        Checks.due("count(0)", x.count(0), 0);
        Checks.throwing(x, "loaf(0, 0)", Checks.NO_SUCH, () -> x.loaf(0, 0));
        Checks.throwing(x, "bake(0)", Checks.NO_SUCH, () -> x.bake(0));
        Checks.due("count(5)", x.count(5), 0);
        Checks.due("stopped(0)", x.stopped(0), -1);
        Checks.due("stopped(1)", x.stopped(1), -1);
    }

    @Says("Creates a board without loaves")
    static void promise01_aNewObjectSharesNothingWithAnotherOne() {
        StrandLoaves x = Boundaries.busyBoard();
        StrandLoaves y = new StrandLoaves();
        for (int what = 0; what <= 6; what++) {
            Checks.due("count(" + what + ") of the second", y.count(what), 0);
        }
        Checks.lay(y, "5:a+");
        Boundaries.dueStrandsOfAll(x, "34322");
    }

    @Says(" and a snapshot, ")
    static void promise01_aNewObjectHasNoSnapshotAndNoSavedState() {
        StrandLoaves x = new StrandLoaves();
        Checks.throwing(x, "restore()", Checks.STATE, x::restore);
        Checks.throwing(x, "undo()", Checks.STATE, x::undo);
        Checks.due("count(6)", x.count(6), 0);
    }

    @Says("with an empty buffer.")
    static void promise01_aNewObjectHasAnEmptyBuffer() {
        StrandLoaves x = new StrandLoaves();
        Checks.due("firstError(false)", x.firstError(false), 0);
        Checks.due("clearBuffer()", x.clearBuffer(), 0);
        Checks.due("append(33)", new StrandLoaves().append(33), 1);
    }

    // ---- 2: lay

    @Says("Lays the loaf that the buffer is as a text, ")
    static void promise02_theShortestAndTheLongestLoafAreLaidAsTheyAreWritten() {
        StrandLoaves x = Checks.with("2:", "7:", Boundaries.LONGEST, "2:a-", "7:f-");
        String[] want = {"2:", "7:", Boundaries.LONGEST, "2:a-", "7:f-"};
        for (int loaf = 0; loaf < want.length; loaf++) {
            Checks.dueText(x, loaf, want[loaf]);
        }
    }

    @Says("and clears the buffer. Undoable.")
    static void promise02_theBufferIsEmptyBehindIt() {
        StrandLoaves x = Checks.with(Boundaries.LONGEST);
        Checks.due("clearBuffer()", x.clearBuffer(), 0);
        Checks.lay(x, "2:");
        Checks.due("append(33)", x.append(33), 1);
    }

    @Says("and clears the buffer. Undoable.")
    static void promise02_itIsUndoable() {
        StrandLoaves x = Checks.with("2:");
        Checks.due("count(6)", x.count(6), 1);
        Checks.due("undo()", x.undo(), 0);
        Checks.due("count(0)", x.count(0), 0);
        Checks.due("the buffer is not brought back", x.clearBuffer(), 0);
    }

    @Says("Returns its number.")
    static void promise02_numbersGoFrom0To5() {
        StrandLoaves x = new StrandLoaves();
        for (int number = 0; number <= 5; number++) {
            Checks.due("lay()", Checks.lay(x, "2:"), number);
        }
        x.bake(0);
        x.bake(0);
        Checks.due("lay() behind two that went", Checks.lay(x, "3:"), 4);
    }

    @Says("Throws `IllegalArgumentException` if the buffer is not a complete loaf as a text (the buffer stays)")
    static void promise02_anEmptyBufferIsNoLoaf() {
        StrandLoaves x = new StrandLoaves();
        Checks.throwing(x, "lay()", Checks.ARGUMENT, x::lay);
        Checks.due("the buffer stays", x.clearBuffer(), 0);
    }

    @Says("Throws `IllegalArgumentException` if the buffer is not a complete loaf as a text (the buffer stays)")
    static void promise02_aLoafThatIsBegunIsNotComplete() {
        for (String text : new String[] {"2", "7", "3:a", "3:a+b", "3:" + "a+b-".repeat(11) + "a+b"}) {
            StrandLoaves x = new StrandLoaves();
            Checks.type(x, text);
            Checks.throwing(x, "lay() of " + text, Checks.ARGUMENT, x::lay);
            Checks.due("the buffer stays: append(43)", x.append('+'), text.length() + 1);
        }
    }

    @Says("Throws `IllegalArgumentException` if the buffer is not a complete loaf as a text (the buffer stays)")
    static void promise02_aTextWithAnErrorIsNoLoaf() {
        String[] texts = {"1:", "8:", "3;", "3:c+", "3:a*", "3:a+;", "3::", "33", ":3", "m0", "3:a+3:", "2:b+", "3:A+"};
        for (String text : texts) {
            StrandLoaves x = new StrandLoaves();
            Checks.type(x, text);
            Checks.throwing(x, "lay() of " + text, Checks.ARGUMENT, x::lay);
            Checks.due("the buffer stays", x.clearBuffer(), text.length());
        }
    }

    @Says("Throws `IllegalArgumentException` if the buffer is not a complete loaf as a text (the buffer stays)")
    static void promise02_aLoafOf25CrossingsIsNone() {
        for (int crossings = 25; crossings <= 29; crossings++) {
            StrandLoaves x = new StrandLoaves();
            Checks.type(x, "7:" + "a+b-c+d-e+f-".repeat(5).substring(0, 2 * crossings));
            Checks.throwing(x, "lay() of " + crossings + " crossings", Checks.ARGUMENT, x::lay);
            Checks.due("the buffer stays", x.clearBuffer(), 2 + 2 * crossings);
        }
    }

    @Says("Throws `IllegalStateException` if there are 6, ")
    static void promise02_aSeventhLoafIsRefusedAndTheBufferStays() {
        StrandLoaves x = Boundaries.sixLoaves();
        Checks.type(x, "3:a+");
        Checks.throwing(x, "lay() of a seventh", Checks.STATE, x::lay);
        x.bake(1);
        Checks.due("lay() of what stayed", x.lay(), 5);
        Checks.dueText(x, 5, "3:a+");
    }

    @Says("or some strand would use more than its dough (the buffer stays)")
    static void promise02_aLoafThatUses31IsRefusedAndTheBufferStays() {
        String[] texts = {Boundaries.FIRST_HIDES_16, Boundaries.FIRST_USES_29 + "a+", "7:" + "f+f-".repeat(8),
            "2:" + "a+".repeat(21)};
        for (String text : texts) {
            StrandLoaves x = new StrandLoaves();
            Checks.type(x, text);
            Checks.throwing(x, "lay() of " + text, Checks.STATE, x::lay);
            Checks.due("the buffer stays", x.clearBuffer(), text.length());
            Checks.due("count(0)", x.count(0), 0);
        }
    }

    @Says("or some strand would use more than its dough (the buffer stays)")
    static void promise02_aLoafThatUses30IsLaid() {
        String[] texts = {Boundaries.FIRST_HIDES_15, Boundaries.FIRST_USES_29 + "a-", Boundaries.LAST_HIDES_15,
            Boundaries.BOTH_USED_UP};
        for (String text : texts) {
            Checks.due("lay() of " + text, Checks.lay(new StrandLoaves(), text), 0);
        }
    }

    // ---- 3: bake

    @Says("Takes a loaf away. Undoable.")
    static void promise03_theLastLoafGoesTheBoardIsEmpty() {
        StrandLoaves x = Checks.with("3:a+");
        x.bake(0);
        Checks.due("count(0)", x.count(0), 0);
        Checks.due("count(1)", x.count(1), 0);
        Checks.throwing(x, "bake(0) again", Checks.NO_SUCH, () -> x.bake(0));
    }

    @Says("Takes a loaf away. Undoable.")
    static void promise03_itIsUndoableForTheFirstAndTheLast() {
        StrandLoaves x = Boundaries.sixLoaves();
        x.bake(0);
        x.bake(4);
        Checks.due("undo()", x.undo(), 5);
        Boundaries.dueStrandsOfAll(x, "34567");
        Checks.due("undo()", x.undo(), 4);
        Boundaries.dueStrandsOfAll(x, "234567");
        Checks.dueText(x, 0, "2:");
        Checks.dueText(x, 5, "7:f-e-d-c-b-");
    }

    @Says("Returns how many crossings it had.")
    static void promise03_itHad0To24Crossings() {
        StrandLoaves x = Checks.with("2:", Boundaries.LONGEST, "3:a+");
        Checks.due("bake(0)", x.bake(0), 0);
        Checks.due("bake(0)", x.bake(0), 24);
        Checks.due("bake(0)", x.bake(0), 1);
    }

    @Says("Throws `IndexOutOfBoundsException` if there is no such loaf")
    static void promise03_numbersBelow0AndFromTheNumberOfLoavesAreRefused() {
        StrandLoaves x = threeLoaves();
        for (int loaf : NO_LOAVES) {
            Checks.throwing(x, "bake(" + loaf + ")", Checks.NO_SUCH, () -> x.bake(loaf));
        }
        Checks.due("bake(2)", x.bake(2), 1);
        Checks.throwing(x, "bake(2) again", Checks.NO_SUCH, () -> x.bake(2));
    }

    // ---- 4: cross

    @Says("Makes a crossing at the end of the word of a loaf. Undoable.")
    static void promise04_theFirstAndThe24thCrossingAreAtTheEnd() {
        StrandLoaves x = Checks.with("3:", "7:" + "a+b-c+d-e+f-".repeat(3) + "a+b-c+d-e+");
        x.cross(0, 1, false);
        Checks.dueText(x, 0, "3:b-");
        x.cross(0, 0, true);
        Checks.dueText(x, 0, "3:b-a+");
        x.cross(1, 0, false);
        Checks.due("crossing(1, 23, 0)", x.crossing(1, 23, 0), 0);
        Checks.due("crossing(1, 23, 1)", x.crossing(1, 23, 1), 0);
        Checks.due("crossing(1, 22, 0)", x.crossing(1, 22, 0), 4);
    }

    @Says("Makes a crossing at the end of the word of a loaf. Undoable.")
    static void promise04_itIsUndoable() {
        StrandLoaves x = Checks.with("3:b-");
        x.cross(0, 0, true);
        Checks.due("count(6)", x.count(6), 2);
        Checks.due("undo()", x.undo(), 1);
        Checks.dueText(x, 0, "3:b-");
        Checks.due("strand(0, 0, 0)", x.strand(0, 0, 0), 0);
    }

    @Says("Returns the strand that is hidden at it.")
    static void promise04_theHiddenStrandMayBeTheFirstOrTheLast() {
        StrandLoaves x = Checks.with("2:", "7:");
        Checks.due("cross(0, 0, true)", x.cross(0, 0, true), 1);
        Checks.due("cross(0, 0, true)", x.cross(0, 0, true), 0);
        Checks.due("cross(1, 5, true)", x.cross(1, 5, true), 6);
        Checks.due("cross(1, 5, true)", x.cross(1, 5, true), 5);
        Checks.due("cross(1, 0, false)", x.cross(1, 0, false), 0);
        Checks.due("cross(1, 0, false)", x.cross(1, 0, false), 1);
    }

    @Says("Throws `IndexOutOfBoundsException` if there is no such loaf or place")
    static void promise04_noSuchLoafIsRefused() {
        StrandLoaves x = threeLoaves();
        for (int loaf : NO_LOAVES) {
            Checks.throwing(x, "cross(" + loaf + ", 0, true)", Checks.NO_SUCH, () -> x.cross(loaf, 0, true));
        }
    }

    @Says("Throws `IndexOutOfBoundsException` if there is no such loaf or place")
    static void promise04_noSuchPlaceIsRefused() {
        StrandLoaves x = threeLoaves();
        for (int loaf = 0; loaf <= 2; loaf++) {
            int which = loaf;
            for (int place : new int[] {loaf + 1, 6, -1, Boundaries.LOW, Boundaries.HIGH}) {
                Checks.throwing(x, "cross(" + loaf + ", " + place + ")", Checks.NO_SUCH,
                        () -> x.cross(which, place, true));
            }
        }
    }

    @Says("`place`: 0 to the strands less 2")
    static void promise04_thePlacesFrom0ToTheStrandsLess2Are() {
        StrandLoaves x = Checks.with("2:", "3:", "7:");
        for (int loaf = 0; loaf <= 2; loaf++) {
            int last = x.loaf(loaf, 0) - 2;
            for (int place = 0; place <= last; place++) {
                Checks.due("cross(" + loaf + ", " + place + ", false)", x.cross(loaf, place, false), 0);
            }
        }
    }

    @Says("`isRight`: true for a right one, false for a left one")
    static void promise04_trueMakesARightOneFalseALeftOne() {
        StrandLoaves x = Checks.with("3:");
        x.cross(0, 1, true);
        x.cross(0, 1, false);
        Checks.dueText(x, 0, "3:b+b-");
    }

    @Says("Throws `IllegalStateException` if it cannot be made")
    static void promise04_a25thCrossingIsRefusedA24thIsNot() {
        StrandLoaves x = Checks.with("7:" + "a+b-c+d-e+f-".repeat(3) + "a+b-c+d-e+");
        x.cross(0, 5, true);
        Checks.due("loaf(0, 1) behind the 24th", x.loaf(0, 1), 24);
        for (int place = 0; place <= 5; place++) {
            int which = place;
            Checks.throwing(x, "cross(0, " + place + ") of a 25th", Checks.STATE, () -> x.cross(0, which, false));
        }
    }

    @Says("Throws `IllegalStateException` if it cannot be made")
    static void promise04_aCrossingWithTooLittleDoughIsRefused() {
        StrandLoaves x = Checks.with(Boundaries.FIRST_HIDES_15, Boundaries.FIRST_USES_29, Boundaries.BOTH_USED_UP);
        Checks.throwing(x, "cross(0, 0, true): hidden", Checks.STATE, () -> x.cross(0, 0, true));
        Checks.throwing(x, "cross(0, 0, false): above", Checks.STATE, () -> x.cross(0, 0, false));
        Checks.throwing(x, "cross(1, 0, true): hidden with 1", Checks.STATE, () -> x.cross(1, 0, true));
        Checks.throwing(x, "cross(2, 0, true)", Checks.STATE, () -> x.cross(2, 0, true));
        Checks.throwing(x, "cross(2, 0, false)", Checks.STATE, () -> x.cross(2, 0, false));
        Checks.due("cross(1, 0, false): above with 1", x.cross(1, 0, false), 1);
    }

    // ---- 5: back

    @Says("Takes the last crossing of a loaf back. Undoable.")
    static void promise05_nothingOfTheLastCrossingStays() {
        StrandLoaves x = Checks.with("3:a+b-", "3:a+", Boundaries.FIRST_HIDES_15);
        x.back(0);
        Checks.dueText(x, 0, "3:a+");
        for (int strand = 0; strand <= 2; strand++) {
            for (int what = 0; what <= 4; what++) {
                Checks.due("strand(0, " + strand + ", " + what + ")", x.strand(0, strand, what),
                        x.strand(1, strand, what));
            }
        }
        Checks.due("crossing(0, 1, 2)", x.crossing(0, 1, 2), -1);
        Checks.due("loaf(0, 10)", x.loaf(1, 10), 0);
        x.back(2);
        Checks.due("strand(2, 0, 3): its dough is back", x.strand(2, 0, 3), 2);
    }

    @Says("Takes the last crossing of a loaf back. Undoable.")
    static void promise05_itIsUndoable() {
        StrandLoaves x = Checks.with("3:a+b-", Boundaries.LONGEST);
        x.back(0);
        x.back(1);
        Checks.due("undo()", x.undo(), 3);
        Checks.due("loaf(1, 1)", x.loaf(1, 1), 24);
        Checks.due("crossing(1, 23, 0)", x.crossing(1, 23, 0), 5);
        Checks.due("undo()", x.undo(), 2);
        Checks.dueText(x, 0, "3:a+b-");
    }

    @Says("Returns how many crossings are left.")
    static void promise05_23To0AreLeft() {
        StrandLoaves x = Checks.with(Boundaries.LONGEST);
        for (int left = 23; left >= 0; left--) {
            Checks.due("back(0)", x.back(0), left);
        }
        Checks.due("loaf(0, 1)", x.loaf(0, 1), 0);
    }

    @Says("Throws `IndexOutOfBoundsException` if there is no such loaf")
    static void promise05_noSuchLoafIsRefused() {
        StrandLoaves x = threeLoaves();
        for (int loaf : NO_LOAVES) {
            Checks.throwing(x, "back(" + loaf + ")", Checks.NO_SUCH, () -> x.back(loaf));
        }
    }

    @Says("Throws `IllegalStateException` if it has none")
    static void promise05_aLoafWithoutCrossingsIsRefused() {
        StrandLoaves x = Checks.with("2:", "3:a+");
        Checks.throwing(x, "back(0)", Checks.STATE, () -> x.back(0));
        Checks.due("back(1)", x.back(1), 0);
        Checks.throwing(x, "back(1) again", Checks.STATE, () -> x.back(1));
    }

    // ---- 6: change

    @Says("Changes a loaf. Undoable.")
    static void promise06_eachChangeIsUndoable() {
        for (int how = 0; how <= 3; how++) {
            StrandLoaves x = Checks.with("4:c+a-b+b-");
            x.change(0, how);
            Checks.due("count(6) behind change(0, " + how + ")", x.count(6), 2);
            Checks.due("count(5)", x.count(5), 1);
            Checks.due("undo()", x.undo(), 1);
            Checks.dueText(x, 0, "4:c+a-b+b-");
            Checks.due("count(5)", x.count(5), 0);
        }
    }

    @Says("`how`: 0: it is mirrored; 1: turned; 2: gone through the other way; 3: loosened")
    static void promise06_eachHowDoesItsOwnChange() {
        String[] want = {"4:c-a+b-b+", "4:a+c-b+b-", "4:b+b-a+c-", "4:a-c+"};
        for (int how = 0; how <= 3; how++) {
            StrandLoaves x = Checks.with("4:c+a-b+b-");
            Checks.due("change(0, " + how + ")", x.change(0, how), how == 3 ? 2 : 4);
            Checks.dueText(x, 0, want[how]);
        }
    }

    @Says("Returns how many crossings it has then.")
    static void promise06_ithas0To24Crossings() {
        StrandLoaves x = Checks.with("5:", Boundaries.LONGEST, "2:a+a-", Boundaries.FIRST_ABOVE_24);
        for (int how = 0; how <= 3; how++) {
            Checks.due("change(0, " + how + ")", x.change(0, how), 0);
            Checks.due("change(1, " + how + ")", x.change(1, how), 24);
            Checks.due("change(2, " + how + ")", x.change(2, how), how == 3 ? 0 : 2);
        }
        Checks.due("change(3, 3)", x.change(3, 3), 0);
    }

    @Says("Throws `IndexOutOfBoundsException` if there is no such loaf")
    static void promise06_noSuchLoafIsRefused() {
        StrandLoaves x = threeLoaves();
        for (int loaf : NO_LOAVES) {
            Checks.throwing(x, "change(" + loaf + ", 0)", Checks.NO_SUCH, () -> x.change(loaf, 0));
        }
    }

    @Says("Throws `IllegalArgumentException` if how is not 0 to 3")
    static void promise06_aHowOfLess1OrOf4IsRefused() {
        StrandLoaves x = threeLoaves();
        for (int how : new int[] {-1, 4, Boundaries.LOW, Boundaries.HIGH}) {
            Checks.throwing(x, "change(1, " + how + ")", Checks.ARGUMENT, () -> x.change(1, how));
        }
        Checks.due("change(1, 0)", x.change(1, 0), 2);
        Checks.due("change(1, 3)", x.change(1, 3), 2);
    }

    @Says("Throws `IllegalStateException` if it cannot be changed so")
    static void promise06_mirroringToMoreThanTheDoughIsRefused() {
        StrandLoaves x = Checks.with("3:" + "a+b+b-a-".repeat(4), "3:" + "a+b+b-a-".repeat(3) + "a+b+b-a+",
                "3:" + "a+b+b-a-".repeat(3) + "a+b+b-");
        Checks.throwing(x, "change(0, 0): strand 0 would use 32", Checks.STATE, () -> x.change(0, 0));
        Checks.throwing(x, "change(1, 0): strand 0 would use 31", Checks.STATE, () -> x.change(1, 0));
        Checks.due("change(2, 0): strand 0 uses 30", x.change(2, 0), 15);
        Checks.due("strand(2, 0, 3)", x.strand(2, 0, 3), 0);
        Checks.due("count(5)", x.count(5), 1);
    }

    @Says("Throws `IllegalStateException` if it cannot be changed so")
    static void promise06_turningToMoreThanTheDoughIsRefused() {
        StrandLoaves x = Checks.with("3:" + "a+b+b-a-".repeat(4), "3:" + "a+b+b-a-".repeat(3) + "a+b+b-a+",
                "3:" + "a+b+b-a-".repeat(3) + "a+b+b-");
        Checks.throwing(x, "change(0, 1): strand 2 would use 32", Checks.STATE, () -> x.change(0, 1));
        Checks.throwing(x, "change(1, 1): strand 2 would use 31", Checks.STATE, () -> x.change(1, 1));
        Checks.due("change(2, 1): strand 2 uses 30", x.change(2, 1), 15);
        Checks.due("strand(2, 2, 3)", x.strand(2, 2, 3), 0);
    }

    @Says("Throws `IllegalStateException` if it cannot be changed so")
    static void promise06_goingTheOtherWayAndLooseningCanAlwaysBeDone() {
        StrandLoaves x = Checks.with(Boundaries.BOTH_USED_UP, Boundaries.FULL_WITHOUT_DOUGH, Boundaries.LAST_HIDES_15);
        Checks.due("change(0, 2)", x.change(0, 2), 20);
        Checks.due("change(1, 2)", x.change(1, 2), 24);
        Checks.due("change(2, 2)", x.change(2, 2), 15);
        Checks.due("change(0, 3)", x.change(0, 3), 20);
        Checks.due("change(1, 3)", x.change(1, 3), 10);
        Checks.due("change(2, 3)", x.change(2, 3), 1);
    }

    // ---- 7: join

    @Says("Joins another loaf (or the same one) to a loaf. Undoable.")
    static void promise07_aLoafIsJoinedToItself() {
        StrandLoaves x = Checks.with("3:a+b-", "3:");
        Checks.due("join(0, 0)", x.join(0, 0), 4);
        Checks.dueText(x, 0, "3:a+b-a+b-");
        Checks.due("join(1, 1) of an empty word", x.join(1, 1), 0);
        Checks.due("count(0)", x.count(0), 2);
    }

    @Says("Joins another loaf (or the same one) to a loaf. Undoable.")
    static void promise07_itIsUndoableAndNoChangeIsCounted() {
        StrandLoaves x = Checks.with("3:a+b-", "3:b+");
        x.join(1, 0);
        Checks.dueText(x, 1, "3:b+a+b-");
        Checks.due("count(5)", x.count(5), 0);
        Checks.due("count(6)", x.count(6), 3);
        Checks.due("undo()", x.undo(), 2);
        Checks.dueText(x, 0, "3:a+b-");
        Checks.dueText(x, 1, "3:b+");
    }

    @Says("Returns how many crossings the first one has then.")
    static void promise07_theFirstOneHas0To24() {
        StrandLoaves x = Checks.with("7:", "7:", "7:" + "a+b-c+d-e+f-".repeat(2), Boundaries.LONGEST);
        Checks.due("join(0, 1)", x.join(0, 1), 0);
        Checks.due("join(0, 2)", x.join(0, 2), 12);
        Checks.due("join(0, 2)", x.join(0, 2), 24);
        Checks.due("join(0, 1)", x.join(0, 1), 24);
        Checks.due("join(1, 3)", x.join(1, 3), 24);
    }

    @Says("Throws `IndexOutOfBoundsException` if there is no such loaf")
    static void promise07_noSuchFirstOrSecondLoafIsRefused() {
        StrandLoaves x = threeLoaves();
        for (int loaf : NO_LOAVES) {
            Checks.throwing(x, "join(" + loaf + ", 0)", Checks.NO_SUCH, () -> x.join(loaf, 0));
            Checks.throwing(x, "join(0, " + loaf + ")", Checks.NO_SUCH, () -> x.join(0, loaf));
            Checks.throwing(x, "join(" + loaf + ", " + loaf + ")", Checks.NO_SUCH, () -> x.join(loaf, loaf));
        }
    }

    @Says("Throws `IllegalStateException` if they have not as many strands, ")
    static void promise07_oneStrandMoreOrLessIsRefusedAlsoWithEmptyWords() {
        StrandLoaves x = Checks.with("2:", "3:", "3:a+", "4:a+");
        Checks.throwing(x, "join(0, 1)", Checks.STATE, () -> x.join(0, 1));
        Checks.throwing(x, "join(1, 0)", Checks.STATE, () -> x.join(1, 0));
        Checks.throwing(x, "join(2, 3)", Checks.STATE, () -> x.join(2, 3));
        Checks.throwing(x, "join(3, 2)", Checks.STATE, () -> x.join(3, 2));
        Checks.due("join(1, 2)", x.join(1, 2), 1);
    }

    @Says("or it cannot be done")
    static void promise07_25CrossingsAreRefused24AreNot() {
        String half = "7:" + "a+b-c+d-e+f-".repeat(2);
        StrandLoaves x = Checks.with(half, half + "a+", "7:a+", "7:");
        Checks.throwing(x, "join(0, 1) to 25", Checks.STATE, () -> x.join(0, 1));
        Checks.throwing(x, "join(1, 0) to 25", Checks.STATE, () -> x.join(1, 0));
        Checks.throwing(x, "join(1, 1) to 26", Checks.STATE, () -> x.join(1, 1));
        Checks.due("join(0, 0) to 24", x.join(0, 0), 24);
        Checks.throwing(x, "join(0, 2) to 25", Checks.STATE, () -> x.join(0, 2));
        Checks.throwing(x, "join(0, 0) to 48", Checks.STATE, () -> x.join(0, 0));
        Checks.due("join(0, 3) to 24", x.join(0, 3), 24);
    }

    @Says("or it cannot be done")
    static void promise07_31OfDoughAreRefused30AreNot() {
        StrandLoaves x = Checks.with("2:" + "a+".repeat(10), "2:a+", "2:a-", Boundaries.FIRST_USES_29);
        Checks.throwing(x, "join(3, 1): strand 0 would use 31", Checks.STATE, () -> x.join(3, 1));
        Checks.due("join(3, 2): strand 0 uses 30", x.join(3, 2), 16);
        Checks.due("join(0, 0): both use 30", x.join(0, 0), 20);
        Checks.throwing(x, "join(0, 1)", Checks.STATE, () -> x.join(0, 1));
        Checks.throwing(x, "join(0, 2)", Checks.STATE, () -> x.join(0, 2));
    }
}
