/** The boundaries that the terms name: loaves, crossings, dough, changes, loosening, rings; a test for each. */
public final class BoundaryTermsTest {
    private BoundaryTermsTest() {
    }

    public static void main(String[] args) {
        Boundaries.run(BoundaryTermsTest.class);
    }

    // ---- an object, and its constant

    @Says("An object is used for at most 512 calls after it has been made")
    static void object_the512thCallIsStillAnswered() {
        StrandLoaves x = new StrandLoaves();
        Checks.type(x, "2:");
        x.lay();
        for (int call = 4; call <= 511; call++) {
            Checks.due("change(0, 0), call " + call, x.change(0, 0), 0);
        }
        Checks.due("count(5), call 512", x.count(5), 508);
    }

    @Says("An object is used for at most 512 calls after it has been made")
    static void object_the512thCallIsStillDone() {
        StrandLoaves x = new StrandLoaves();
        Checks.type(x, "2:");
        x.lay();
        for (int call = 4; call <= 510; call += 2) {
            Checks.due("cross(0, 0, true), call " + call, x.cross(0, 0, true), 1);
            Checks.due("back(0), call " + (call + 1), x.back(0), 0);
        }
        Checks.due("undo(), call 512", x.undo(), 5);
        StrandLoaves y = new StrandLoaves();
        for (int call = 1; call <= 511; call++) {
            Checks.due("keep(), call " + call, y.keep(), 0);
        }
        Checks.due("restore(), call 512", y.restore(), 0);
    }

    @Says("`NONE = -1`: There is nothing to return.")
    static void constant_noneIsLess1AndIsReturnedForNothing() {
        Checks.due("NONE", StrandLoaves.NONE, -1);
        StrandLoaves x = Checks.with("2:");
        Checks.due("crossing(0, 0, 0)", x.crossing(0, 0, 0), StrandLoaves.NONE);
        Checks.due("strand(0, 2, 0)", x.strand(0, 2, 0), StrandLoaves.NONE);
        Checks.due("loose(0, 0)", x.loose(0, 0), StrandLoaves.NONE);
        Checks.due("stopped(0)", x.stopped(0), StrandLoaves.NONE);
    }

    // ---- loaves and crossings

    @Says("There are at most 6 loaves")
    static void terms_aSixthLoafIsLaidASeventhIsNot() {
        StrandLoaves x = Checks.with("2:", "2:", "2:", "2:", "2:");
        Checks.due("lay() of the sixth", Checks.lay(x, "2:"), 5);
        Checks.type(x, "2:");
        Checks.throwing(x, "lay() of a seventh", Checks.STATE, x::lay);
        Checks.due("count(0)", x.count(0), 6);
        x.bake(2);
        Checks.due("lay() of the sixth again", x.lay(), 5);
        Checks.due("count(0)", x.count(0), 6);
    }

    @Says("numbered from 0; ")
    static void terms_theFirstLoafHasTheNumber0() {
        StrandLoaves x = new StrandLoaves();
        Checks.throwing(x, "loaf(0, 0) of none", Checks.NO_SUCH, () -> x.loaf(0, 0));
        Checks.due("lay()", Checks.lay(x, "4:"), 0);
        Checks.due("loaf(0, 0)", x.loaf(0, 0), 4);
        Checks.throwing(x, "loaf(1, 0)", Checks.NO_SUCH, () -> x.loaf(1, 0));
        Checks.due("lay()", Checks.lay(x, "5:"), 1);
        Checks.due("loaf(1, 0)", x.loaf(1, 0), 5);
    }

    @Says("when one goes, those behind it have numbers that are less by 1.")
    static void terms_whenTheFirstGoesAllOthersMove() {
        StrandLoaves x = Boundaries.sixLoaves();
        x.bake(0);
        Boundaries.dueStrandsOfAll(x, "34567");
        Checks.dueText(x, 0, "3:b+");
        Checks.dueText(x, 4, "7:f-e-d-c-b-");
        Checks.due("strand(0, 1, 0) of the one that was 1", x.strand(0, 1, 0), 2);
        Checks.due("loose(1, 0) of the one that was 2", x.loose(1, 0), 1);
    }

    @Says("when one goes, those behind it have numbers that are less by 1.")
    static void terms_whenOneInTheMiddleGoesThoseAheadOfItStay() {
        StrandLoaves x = Boundaries.sixLoaves();
        x.bake(3);
        Boundaries.dueStrandsOfAll(x, "23467");
        Checks.dueText(x, 2, "4:c-a+");
        Checks.dueText(x, 3, "6:e+e-b+c+");
        Checks.dueText(x, 4, "7:f-e-d-c-b-");
    }

    @Says("when one goes, those behind it have numbers that are less by 1.")
    static void terms_whenTheLastGoesNoOtherMoves() {
        StrandLoaves x = Boundaries.sixLoaves();
        x.bake(5);
        Boundaries.dueStrandsOfAll(x, "23456");
        Checks.dueText(x, 4, "6:e+e-b+c+");
        Checks.throwing(x, "loaf(5, 0)", Checks.NO_SUCH, () -> x.loaf(5, 0));
    }

    @Says("A loaf has 2 to 7 strands, ")
    static void terms_aLoafOf1OrOf8StrandsIsNone() {
        for (int strands = 0; strands <= 9; strands++) {
            StrandLoaves x = new StrandLoaves();
            Checks.type(x, strands + ":");
            if (strands >= 2 && strands <= 7) {
                Checks.due("lay() of " + strands, x.lay(), 0);
                Checks.due("loaf(0, 0) of " + strands, x.loaf(0, 0), strands);
            } else {
                Checks.throwing(x, "lay() of " + strands, Checks.ARGUMENT, x::lay);
            }
        }
    }

    @Says("numbered from 0, ")
    static void terms_strandsGoFrom0ToTheirNumberLess1() {
        for (int strands = 2; strands <= 7; strands++) {
            StrandLoaves x = Checks.with(strands + ":");
            for (int strand = 0; strand <= 6; strand++) {
                Checks.due("strand(0, " + strand + ", 3) of " + strands, x.strand(0, strand, 3),
                        strand < strands ? 30 : -1);
            }
        }
    }

    @Says("each at first in the place of its number, ")
    static void terms_withoutCrossingsEachStrandIsInThePlaceOfItsNumber() {
        for (int strands = 2; strands <= 7; strands++) {
            StrandLoaves x = Checks.with(strands + ":");
            for (int strand = 0; strand < strands; strand++) {
                Checks.due("strand(0, " + strand + ", 0) of " + strands, x.strand(0, strand, 0), strand);
                Checks.due("strand(0, " + strand + ", 4) of " + strands, x.strand(0, strand, 4), strand);
            }
        }
    }

    @Says("and a word: its crossings in their order, at most 24.")
    static void terms_a24thCrossingIsMadeBehindTheOthersA25thIsNot() {
        StrandLoaves x = Checks.with("7:" + "a+b-c+d-e+f-".repeat(3) + "a+b-c+d-e+");
        Checks.due("loaf(0, 1)", x.loaf(0, 1), 23);
        x.cross(0, 2, true);
        Checks.dueText(x, 0, "7:" + "a+b-c+d-e+f-".repeat(3) + "a+b-c+d-e+c+");
        Checks.throwing(x, "cross() of a 25th", Checks.STATE, () -> x.cross(0, 0, true));
        Checks.due("loaf(0, 1)", x.loaf(0, 1), 24);
    }

    @Says("A crossing is at a place, 0 to the strands less 2: ")
    static void terms_theLastPlaceIsTheStrandsLess2() {
        for (int strands = 2; strands <= 7; strands++) {
            StrandLoaves x = Checks.with(strands + ":");
            int last = strands - 2;
            Checks.due("cross(0, 0, true) of " + strands, x.cross(0, 0, true), 1);
            x.back(0);
            Checks.due("cross(0, last, true) of " + strands, x.cross(0, last, true), strands - 1);
            Checks.due("crossing(0, 0, 0) of " + strands, x.crossing(0, 0, 0), last);
            Checks.throwing(x, "cross(0, last + 1) of " + strands, Checks.NO_SUCH, () -> x.cross(0, last + 1, true));
            Checks.throwing(x, "cross(0, -1) of " + strands, Checks.NO_SUCH, () -> x.cross(0, -1, true));
        }
    }

    @Says("the strands in this place and the next one change places; ")
    static void terms_atTheOutermostPlacesTheOutermostStrandsChange() {
        StrandLoaves x = Checks.with("7:a+", "7:f-");
        int[][] want = {{1, 0, 2, 3, 4, 5, 6}, {0, 1, 2, 3, 4, 6, 5}};
        for (int loaf = 0; loaf <= 1; loaf++) {
            for (int strand = 0; strand <= 6; strand++) {
                Checks.due("strand(" + loaf + ", " + strand + ", 0)", x.strand(loaf, strand, 0), want[loaf][strand]);
            }
        }
    }

    @Says("it is right, if the one from the left goes above, otherwise left; ")
    static void terms_atARightCrossingTheOneFromTheLeftGoesAbove() {
        StrandLoaves x = Checks.with("3:a+a+b+", "3:a-a-b-");
        int[] aboveRight = {0, 1, 1};
        int[] aboveLeft = {1, 0, 2};
        for (int crossing = 0; crossing <= 2; crossing++) {
            Checks.due("crossing(0, " + crossing + ", 1)", x.crossing(0, crossing, 1), 1);
            Checks.due("crossing(0, " + crossing + ", 3)", x.crossing(0, crossing, 3), aboveRight[crossing]);
            Checks.due("crossing(1, " + crossing + ", 1)", x.crossing(1, crossing, 1), 0);
            Checks.due("crossing(1, " + crossing + ", 3)", x.crossing(1, crossing, 3), aboveLeft[crossing]);
        }
    }

    @Says("the other one is hidden.")
    static void terms_theOneThatDoesNotGoAboveIsHidden() {
        StrandLoaves x = Checks.with("3:a+a+b+", "3:a-a-b-");
        int[] hiddenRight = {1, 0, 2};
        int[] hiddenLeft = {0, 1, 1};
        for (int crossing = 0; crossing <= 2; crossing++) {
            Checks.due("crossing(0, " + crossing + ", 2)", x.crossing(0, crossing, 2), hiddenRight[crossing]);
            Checks.due("crossing(1, " + crossing + ", 2)", x.crossing(1, crossing, 2), hiddenLeft[crossing]);
        }
    }

    @Says("Each strand has 30 of dough; ")
    static void terms_aStrandMayUseAll30OfItsDough() {
        StrandLoaves x = Checks.with(Boundaries.FIRST_USES_28, Boundaries.FIRST_USES_29);
        Checks.due("cross(0, 0, false): hidden with 2 left", x.cross(0, 0, false), 0);
        Checks.due("strand(0, 0, 3)", x.strand(0, 0, 3), 0);
        Checks.due("cross(1, 0, false): above with 1 left", x.cross(1, 0, false), 1);
        Checks.due("strand(1, 0, 3)", x.strand(1, 0, 3), 0);
        Checks.due("lay() with no dough left at all", Checks.lay(x, Boundaries.BOTH_USED_UP), 2);
        Checks.due("strand(2, 0, 3)", x.strand(2, 0, 3), 0);
        Checks.due("strand(2, 1, 3)", x.strand(2, 1, 3), 0);
    }

    @Says("Each strand has 30 of dough; ")
    static void terms_aStrandMayNotUse31OfDough() {
        StrandLoaves x = Checks.with(Boundaries.FIRST_USES_29, Boundaries.FIRST_HIDES_15);
        Checks.throwing(x, "cross(0, 0, true): hidden with 1 left", Checks.STATE, () -> x.cross(0, 0, true));
        Checks.throwing(x, "cross(1, 0, true): hidden with 0 left", Checks.STATE, () -> x.cross(1, 0, true));
        Checks.throwing(x, "cross(1, 0, false): above with 0 left", Checks.STATE, () -> x.cross(1, 0, false));
    }

    @Says("the strand that goes above at a crossing uses 1 of it, ")
    static void terms_goingAboveUses1() {
        StrandLoaves x = Checks.with(Boundaries.FIRST_ABOVE_24, "2:a+");
        Checks.due("strand(0, 0, 3) behind 24", x.strand(0, 0, 3), 6);
        Checks.due("strand(1, 0, 3) behind 1", x.strand(1, 0, 3), 29);
    }

    @Says("the one that is hidden 2.")
    static void terms_hidingUses2() {
        StrandLoaves x = Checks.with(Boundaries.FIRST_ABOVE_24, "2:a+");
        Checks.due("strand(0, 1, 3) behind 12", x.strand(0, 1, 3), 6);
        Checks.due("strand(0, 2, 3) behind 12", x.strand(0, 2, 3), 6);
        Checks.due("strand(1, 1, 3) behind 1", x.strand(1, 1, 3), 28);
    }

    @Says("A change of the word of a loaf cannot be made for the first of these reasons: ")
    static void terms_ofBothReasonsTheFirstIsTold() {
        StrandLoaves x = Checks.with(Boundaries.FULL_WITHOUT_DOUGH, "3:a-");
        Checks.due("whyNot(0, 0, true)", x.whyNot(0, 0, true), 1);
        Checks.due("whyNot(0, 0, false)", x.whyNot(0, 0, false), 1);
        Checks.due("work() that crosses", Checks.works(x, "x0a-"), 0);
        Checks.due("stopped(1)", x.stopped(1), 1);
        Checks.due("work() that joins", Checks.works(x, "j0/1"), 0);
        Checks.due("stopped(1)", x.stopped(1), 1);
    }

    @Says("1: the word would have more than 24 crossings; ")
    static void terms_24CrossingsAreNoReason25Are() {
        StrandLoaves x = Checks.with("7:" + "a+b-c+d-e+f-".repeat(3) + "a+b-c+d-e+", "7:a+");
        Checks.due("whyNot(0, 0, true) to 24", x.whyNot(0, 0, true), 0);
        x.cross(0, 0, true);
        Checks.due("whyNot(0, 0, true) to 25", x.whyNot(0, 0, true), 1);
        Checks.due("work() to 25", Checks.works(x, "j0/1"), 0);
        Checks.due("stopped(1)", x.stopped(1), 1);
    }

    @Says("2: by the new word some strand would use more than its dough.")
    static void terms_anyStrandWithoutDoughIsAReason() {
        StrandLoaves x = Checks.with(Boundaries.LAST_HIDES_15, Boundaries.FIRST_HIDES_15);
        Checks.due("crossing(0, 14, 2)", x.crossing(0, 14, 2), 6);
        Checks.due("whyNot(0, 5, true): strand 6 would go above or hide", x.whyNot(0, 5, true), 2);
        Checks.due("whyNot(0, 5, false)", x.whyNot(0, 5, false), 2);
        Checks.due("whyNot(0, 4, true)", x.whyNot(0, 4, true), 2);
        Checks.due("whyNot(0, 4, false)", x.whyNot(0, 4, false), 2);
        Checks.due("whyNot(0, 3, true): without strand 6", x.whyNot(0, 3, true), 0);
        Checks.due("whyNot(1, 0, true)", x.whyNot(1, 0, true), 2);
        Checks.due("whyNot(1, 0, false)", x.whyNot(1, 0, false), 2);
    }

    // ---- changes

    @Says("To mirror a loaf makes each right crossing left, and each left one right.")
    static void terms_mirroringReachesTheFirstAndTheLastCrossing() {
        StrandLoaves x = Checks.with(Boundaries.LONGEST, "2:", "2:a-");
        x.change(0, 0);
        Checks.dueText(x, 0, "7:" + "a-b+c-d+e-f+".repeat(4));
        Checks.due("change(1, 0) of an empty word", x.change(1, 0), 0);
        Checks.dueText(x, 1, "2:");
        x.change(2, 0);
        Checks.dueText(x, 2, "2:a+");
    }

    @Says("To turn it puts each crossing at the place (the strands less 2 less the place), as right or left as it was.")
    static void terms_turningChangesTheOutermostPlacesAndKeepsTheMiddle() {
        StrandLoaves x = Checks.with(Boundaries.LONGEST, "2:a+a+", "4:b-a+c+", "3:", "3:a-b+");
        String[] want = {"7:" + "f+e-d+c-b+a-".repeat(4), "2:a+a+", "4:b-c+a+", "3:", "3:b-a+"};
        for (int loaf = 0; loaf < want.length; loaf++) {
            x.change(loaf, 1);
            Checks.dueText(x, loaf, want[loaf]);
        }
    }

    @Says("To go through it the other way puts its crossings in the other order, "
            + "each right one left, each left one right ")
    static void terms_goingTheOtherWayChangesFirstAndLast() {
        StrandLoaves x = Checks.with(Boundaries.LONGEST, "2:a+", "3:", "3:a+b+", "4:a+b+c-");
        String[] want = {"7:" + "f+e-d+c-b+a-".repeat(4), "2:a-", "3:", "3:b-a-", "4:c+b-a-"};
        for (int loaf = 0; loaf < want.length; loaf++) {
            x.change(loaf, 2);
            Checks.dueText(x, loaf, want[loaf]);
        }
    }

    @Says("(so a word and then this one undo each other).")
    static void terms_aWordAndTheOtherWayUndoEachOther() {
        StrandLoaves x = Checks.with("6:a+b-c+d-e+a+b+c+d+e+b-d+", "6:a+b-c+d-e+a+b+c+d+e+b-d+");
        x.change(1, 2);
        Checks.due("join(0, 1)", x.join(0, 1), 24);
        Checks.due("loaf(0, 5)", x.loaf(0, 5), 0);
        Checks.due("loaf(0, 6)", x.loaf(0, 6), 0);
        Checks.due("loaf(0, 7)", x.loaf(0, 7), 0);
        Checks.due("loaf(0, 8)", x.loaf(0, 8), 1);
    }

    @Says("To join another loaf to it, which has as many strands, puts the crossings of the other one behind its own; ")
    static void terms_theOtherOnesCrossingsComeBehind() {
        StrandLoaves x = Checks.with("3:a+b-", "3:b+b+a-", "3:");
        x.join(0, 1);
        Checks.dueText(x, 0, "3:a+b-b+b+a-");
        x.join(0, 2);
        Checks.dueText(x, 0, "3:a+b-b+b+a-");
        x.join(2, 1);
        Checks.dueText(x, 2, "3:b+b+a-");
    }

    @Says("the other loaf stays.")
    static void terms_theOtherLoafStaysWhenItIsJoined() {
        StrandLoaves x = Checks.with("3:a+b-", "3:b+");
        x.join(0, 1);
        Checks.due("count(0)", x.count(0), 2);
        Checks.dueText(x, 1, "3:b+");
        x.cross(0, 0, true);
        Checks.dueText(x, 1, "3:b+");
    }

    @Says("To loosen it makes its word the loose word (as told below).")
    static void terms_looseningMakesTheWordTheLooseOne() {
        StrandLoaves x = Checks.with("4:c+a-b+", "4:", "4:a+c-a-c+", Boundaries.FIRST_ABOVE_24);
        String[] want = {"4:a-c+b+", "4:", "4:", "3:"};
        for (int loaf = 0; loaf < want.length; loaf++) {
            x.change(loaf, 3);
            Checks.dueText(x, loaf, want[loaf]);
        }
        Checks.due("strand(0, 0, 0) behind it", x.strand(0, 0, 0), 2);
        Checks.due("crossing(0, 0, 2) behind it", x.crossing(0, 0, 2), 0);
        Checks.due("strand(3, 0, 3) behind it", x.strand(3, 0, 3), 30);
    }

    // ---- loosening

    private static void dueLengths(String text, int wantShort, int wantLoose) {
        StrandLoaves x = Checks.with(text);
        Checks.due("loaf(0, 5) of " + text, x.loaf(0, 5), wantShort);
        Checks.due("loaf(0, 6) of " + text, x.loaf(0, 6), wantShort);
        Checks.due("loaf(0, 7) of " + text, x.loaf(0, 7), wantLoose);
    }

    @Says("Two crossings one behind the other undo each other, if they are at the same place, one right, one left.")
    static void terms_rightThenLeftAndLeftThenRightUndoEachOther() {
        dueLengths("2:a+a-", 0, 0);
        dueLengths("2:a-a+", 0, 0);
        dueLengths("7:f+f-", 0, 0);
    }

    @Says("Two crossings one behind the other undo each other, if they are at the same place, one right, one left.")
    static void terms_twoOfTheSameSideDoNotUndoEachOther() {
        dueLengths("2:a+a+", 2, 2);
        dueLengths("2:a-a-", 2, 2);
    }

    @Says("Two crossings one behind the other undo each other, if they are at the same place, one right, one left.")
    static void terms_twoAtNeighbouringPlacesDoNotUndoEachOther() {
        dueLengths("3:a+b-", 2, 2);
        dueLengths("3:b+a-", 2, 2);
        dueLengths("3:a+b+a-", 3, 3);
        dueLengths("7:a+f-", 2, 2);
    }

    @Says("The short word is what is left of a word when such pairs are taken away, as long as there are any.")
    static void terms_aShortWordMayHave0To24Crossings() {
        dueLengths("2:", 0, 0);
        dueLengths("2:a+", 1, 1);
        dueLengths("3:" + "a+b+b-a-".repeat(6), 0, 0);
        dueLengths("7:" + "a+b-c+d-e+f-".repeat(2) + "f+e-d+c-b+a-".repeat(2), 0, 0);
        dueLengths(Boundaries.LONGEST, 24, 24);
    }

    @Says("The short word is what is left of a word when such pairs are taken away, as long as there are any.")
    static void terms_pairsThatCloseUpAreTakenAwayToo() {
        dueLengths("4:a+b-c+c-b+a-", 0, 0);
        dueLengths("3:a+b+b-a-b+", 1, 1);
        dueLengths("3:b+a+b+b-a-", 1, 1);
        dueLengths("3:b+a+a-b+", 2, 2);
        dueLengths("2:a+a-a+a-a+", 1, 1);
        dueLengths("2:a+a+a-a-a-", 1, 1);
    }

    @Says("The short word is what is left of a word when such pairs are taken away, as long as there are any.")
    static void terms_theShortWordChangesNoOrder() {
        dueLengths("4:a+c-a-", 3, 1);
        dueLengths("4:c+a+c-a-", 4, 0);
    }

    @Says("It is told by going through the word once, and a second time by looking for the first such pair "
            + "from the beginning, again and again; both agree.")
    static void terms_bothWaysToTheShortWordAgree() {
        String[] words = {"", "a+", "a+a-", "b+a+a-b-c+", "c-c-b+b-c+c+a-", "a+b+c+c-b-a-a-", "a+a+a+a-a-a-a-",
            "c+b-b+b-b+c-a+", "a+b+c+".repeat(4) + "c-b-a-".repeat(4), "a+c-".repeat(12)};
        int[] want = {0, 1, 0, 1, 1, 1, 1, 1, 0, 24};
        for (int i = 0; i < words.length; i++) {
            StrandLoaves x = Checks.with("4:" + words[i]);
            Checks.due("loaf(0, 5) of " + words[i], x.loaf(0, 5), want[i]);
            StrandLoaves y = Checks.with("4:" + words[i]);
            Checks.due("loaf(0, 6) of " + words[i], y.loaf(0, 6), want[i]);
        }
    }

    private static void dueLoose(String text, String want) {
        StrandLoaves x = Checks.with(text);
        Checks.due("loaf(0, 7) of " + text, x.loaf(0, 7), want.length() / 2);
        for (int i = 0; i <= want.length() / 2 && i < 24; i++) {
            int code = i == want.length() / 2 ? -1
                    : 2 * (want.charAt(2 * i) - 'a') + (want.charAt(2 * i + 1) == '+' ? 1 : 0);
            Checks.due("loose(0, " + i + ") of " + text, x.loose(0, i), code);
        }
    }

    @Says("Two crossings one behind the other can change their order, if their places differ by 2 or more.")
    static void terms_placesThatDifferBy2ChangeTheirOrderBy1DoNot() {
        dueLoose("4:c+a+", "a+c+");
        dueLoose("4:c-a+", "a+c-");
        dueLoose("7:f+a-", "a-f+");
        dueLoose("3:b+a+", "b+a+");
        dueLoose("7:f+e+", "f+e+");
        dueLoose("3:a+a+", "a+a+");
    }

    @Says("The loose word is what is left when, as long as it can be done, "
            + "the first pair that undoes itself is taken away, ")
    static void terms_pairsThatMeetByLooseningAreTakenAway() {
        dueLoose("4:a+c-a-", "c-");
        dueLoose("4:c+a+c-", "a+");
        dueLoose("6:e+c+a+e-c-a-", "");
        dueLoose("5:d+a+b+d-", "a+b+");
        dueLoose("4:b+c+a+c-b-", "b+a+b-");
        dueLoose("4:a+c+c-a-b+", "b+");
    }

    @Says("or, if there is none, the first pair of which the first one has a place that is greater by 2 or more "
            + "changes its order.")
    static void terms_theLooseWordHasNoGreaterPlaceAheadOfOneThatIsLessBy2() {
        dueLoose("4:a+c+", "a+c+");
        dueLoose("5:d+c+a+", "a+d+c+");
        dueLoose("5:d+b+a+", "b+a+d+");
        dueLoose("7:f+e+d+c+b+a+", "f+e+d+c+b+a+");
        dueLoose("7:f+d+b+e-c-a-", "b+a-d+c-f+e-");
        dueLoose("7:" + "f+a-".repeat(12), "a-".repeat(12) + "f+".repeat(12));
    }

    @Says("Two loaves are alike, if they have as many strands, and the same loose word.")
    static void terms_emptyWordsOfOtherStrandsAreNotAlike() {
        StrandLoaves x = Checks.with("2:", "3:", "3:a+a-", "4:a+", "3:a+");
        Checks.due("alike(0, 1)", x.alike(0, 1), 0);
        Checks.due("alike(1, 2)", x.alike(1, 2), 1);
        Checks.due("alike(3, 4)", x.alike(3, 4), 0);
        Checks.due("loaf(1, 10)", x.loaf(1, 10), 1);
        Checks.due("loaf(2, 10)", x.loaf(2, 10), 1);
        Checks.due("loaf(4, 10)", x.loaf(4, 10), 4);
    }

    @Says("Two loaves are alike, if they have as many strands, and the same loose word.")
    static void terms_loavesAreNotAlikeIfOneCrossingOfTheLooseWordsDiffers() {
        StrandLoaves x = Checks.with("3:a+a+b+", "3:a+a+b-", "3:a+a+", "3:b+a+b+", "3:a+b+a+", "3:a+a+b+b-b+");
        for (int other = 1; other <= 4; other++) {
            Checks.due("loaf(" + other + ", 10)", x.loaf(other, 10), other);
        }
        Checks.due("loaf(5, 10)", x.loaf(5, 10), 0);
        Checks.due("count(4)", x.count(4), 5);
    }

    // ---- rings

    @Says("A plait is closed by joining each end to the beginning of the same place.")
    static void terms_aClosedPlaitHas1RingToAsManyAsItsStrands() {
        for (int strands = 2; strands <= 7; strands++) {
            String all = "a+b+c+d+e+f+".substring(0, 2 * (strands - 1));
            StrandLoaves x = Checks.with(strands + ":", strands + ":" + all, strands + ":a-");
            for (int what = 3; what <= 4; what++) {
                Checks.due("loaf(0, " + what + ") of " + strands, x.loaf(0, what), strands);
                Checks.due("loaf(1, " + what + ") of " + strands, x.loaf(1, what), 1);
                Checks.due("loaf(2, " + what + ") of " + strands, x.loaf(2, what), strands - 1);
            }
        }
    }

    @Says("The rings of it are told by going round, and a second time by joining strands; both agree.")
    static void terms_bothWaysToTheRingsAgree() {
        String[] loaves = {"6:a+c+e+", "6:a+b+d-e-", "7:a+b+c+e+f+", "7:f+e+d+c+b+a+", "7:b+d-f+", "5:a+b+c+b+a+"};
        int[] want = {3, 2, 2, 1, 4, 4};
        for (int i = 0; i < loaves.length; i++) {
            StrandLoaves x = Checks.with(loaves[i]);
            Checks.due("loaf(0, 3) of " + loaves[i], x.loaf(0, 3), want[i]);
            Checks.due("loaf(0, 4) of " + loaves[i], x.loaf(0, 4), want[i]);
        }
    }
}
