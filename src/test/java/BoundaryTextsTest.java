/** The boundaries of texts: what the terms say of them, and promises 8 to 12; a test for each. */
public final class BoundaryTextsTest {
    private BoundaryTextsTest() {
    }

    public static void main(String[] args) {
        Boundaries.run(BoundaryTextsTest.class);
    }

    private static void dueError(String text, boolean areWorks, int want) {
        StrandLoaves x = new StrandLoaves();
        Checks.type(x, text);
        Checks.due("firstError(" + areWorks + ") of " + text, x.firstError(areWorks), want);
    }

    private static void dueLoaf(String text, int want) {
        dueError(text, false, want);
    }

    private static void dueWorks(String text, int want) {
        dueError(text, true, want);
    }

    /** Nothing but the given signs may come behind the text. */
    private static void dueSigns(String text, boolean areWorks, String signs) {
        for (char sign = 33; sign <= 126; sign++) {
            boolean may = signs.indexOf(sign) >= 0;
            dueError(text + sign, areWorks, may ? text.length() + 1 : text.length());
        }
    }

    // ---- the terms

    @Says("The buffer has at most 60 characters.")
    static void terms_a60thCharacterIsAppendedA61stIsNot() {
        StrandLoaves x = new StrandLoaves();
        Checks.type(x, "m0;".repeat(19) + "m0");
        Checks.due("append(59) of the 60th", x.append(';'), 60);
        Checks.throwing(x, "append(109) of a 61st", Checks.STATE, () -> x.append('m'));
        Checks.due("clearBuffer()", x.clearBuffer(), 60);
    }

    @Says("A loaf as a text is its strands, 2 to 7, ")
    static void terms_aLoafBeginsWith2To7() {
        dueSigns("", false, "234567");
    }

    @Says("\":\", ")
    static void terms_behindTheStrandsComesAColon() {
        dueSigns("2", false, ":");
        dueSigns("7", false, ":");
    }

    @Says("and 0 to 24 crossings, ")
    static void terms_aLoafMayHave0Crossings() {
        dueLoaf("2:", 2);
        Checks.dueText(Checks.with("7:"), 0, "7:");
    }

    @Says("and 0 to 24 crossings, ")
    static void terms_aLoafMayHave24CrossingsAndNot25() {
        dueLoaf("3:" + "a+".repeat(23) + "b-", 50);
        dueLoaf("3:" + "a+".repeat(24) + "a", 50);
        dueLoaf("3:" + "a+".repeat(24) + "b-", 50);
        dueLoaf("3:" + "a+".repeat(29), 50);
        dueSigns("7:" + "a+".repeat(24), false, "");
        dueSigns("7:" + "a+".repeat(23), false, "abcdef");
    }

    @Says("each a letter, \"a\" for the place 0 and so on, as far as there are places, ")
    static void terms_lettersGoAsFarAsThereArePlaces() {
        for (int strands = 2; strands <= 7; strands++) {
            String letters = "abcdef".substring(0, strands - 1);
            dueSigns(strands + ":", false, letters);
            dueSigns(strands + ":a-", false, letters);
        }
        StrandLoaves x = Checks.with("7:a+f-");
        Checks.due("crossing(0, 0, 0)", x.crossing(0, 0, 0), 0);
        Checks.due("crossing(0, 1, 0)", x.crossing(0, 1, 0), 5);
    }

    @Says("and \"+\" (right) or \"-\" (left).")
    static void terms_behindALetterComesPlusOrMinus() {
        dueSigns("2:a", false, "+-");
        dueSigns("7:f+f", false, "+-");
        dueSigns("7:" + "a+".repeat(23) + "f", false, "+-");
        StrandLoaves x = Checks.with("2:a+a-");
        Checks.due("crossing(0, 0, 1)", x.crossing(0, 0, 1), 1);
        Checks.due("crossing(0, 1, 1)", x.crossing(0, 1, 1), 0);
    }

    @Says("Works as a text are one or more parts with \";\" between them: ")
    static void terms_worksHaveAtLeastOnePart() {
        StrandLoaves x = new StrandLoaves();
        Checks.throwing(x, "work() of no part", Checks.ARGUMENT, x::work);
        Checks.type(x, "z0");
        Checks.due("work() of one part", x.work(), 0);
        Checks.due("count(6)", x.count(6), 1);
        dueSigns("", true, "xmtrljz");
    }

    @Says("Works as a text are one or more parts with \";\" between them: ")
    static void terms_aSemicolonStandsBetweenPartsAlone() {
        for (String part : new String[] {"m0", "t5", "r0", "l5", "z0", "j0/5", "x5f-", "x0a+"}) {
            dueSigns(part, true, ";");
            dueSigns(part + ";", true, "xmtrljz");
        }
        dueWorks(";m0", 0);
        dueWorks("m0;;m0", 3);
        dueWorks("m0m0", 2);
    }

    @Says("Works as a text are one or more parts with \";\" between them: ")
    static void terms_worksMayHave20PartsAndEndWithTheBuffer() {
        StrandLoaves x = Checks.with("2:");
        Checks.due("work() of 20 parts", Checks.works(x, "m0;".repeat(19) + "m0"), 20);
        Checks.type(x, "m0;".repeat(17) + "x0a+;x0a");
        Checks.due("append(45)", x.append('-'), 60);
        Checks.due("work() of 60 characters", x.work(), 19);
        Checks.dueText(x, 0, "2:a+a-");
    }

    @Says("\"x\", a loaf, 0 to 5, a letter, \"a\" to \"f\", and \"+\" or \"-\" (a crossing is made at the end); ")
    static void terms_aCrossingAsAPart() {
        dueSigns("x", true, "012345");
        dueSigns("x0", true, "abcdef");
        dueSigns("x5f", true, "+-");
        StrandLoaves x = Checks.with("2:", "7:a+");
        Checks.due("work()", Checks.works(x, "x0a+;x1f-;x1a+"), 3);
        Checks.dueText(x, 0, "2:a+");
        Checks.dueText(x, 1, "7:a+f-a+");
    }

    @Says("\"m\", \"t\", \"r\" or \"l\", and a loaf (it is mirrored, turned, gone through the other way, loosened); ")
    static void terms_changesAsParts() {
        String[] want = {"4:c-a+b-b+", "4:a+c-b+b-", "4:b+b-a+c-", "4:a-c+"};
        for (int how = 0; how <= 3; how++) {
            char letter = "mtrl".charAt(how);
            dueSigns("" + letter, true, "012345");
            StrandLoaves x = Checks.with("2:", "2:", "2:", "2:", "2:", "4:c+a-b+b-");
            Checks.due("work() of " + letter + "5", Checks.works(x, letter + "5"), 1);
            Checks.dueText(x, 5, want[how]);
            Checks.due("count(5)", x.count(5), 1);
        }
    }

    @Says("\"j\", a loaf, \"/\", and a loaf (the second is joined to the first); ")
    static void terms_aJoiningAsAPart() {
        dueSigns("j", true, "012345");
        dueSigns("j5", true, "/");
        dueSigns("j0/", true, "012345");
        StrandLoaves x = Checks.with("3:a+", "3:b-");
        Checks.due("work()", Checks.works(x, "j1/0"), 1);
        Checks.dueText(x, 0, "3:a+");
        Checks.dueText(x, 1, "3:b-a+");
        Checks.due("work() with itself", Checks.works(x, "j0/0"), 1);
        Checks.dueText(x, 0, "3:a+a+");
    }

    @Says("or \"z\" and a loaf (its last crossing is taken back).")
    static void terms_aTakingBackAsAPart() {
        dueSigns("z", true, "012345");
        StrandLoaves x = Checks.with("3:a+", "3:b-a+");
        Checks.due("work()", Checks.works(x, "z1;z0"), 2);
        Checks.dueText(x, 0, "3:");
        Checks.dueText(x, 1, "3:b-");
    }

    @Says("The buffer is read from left to right; ")
    static void terms_theFirstOfSeveralErrorsIsTold() {
        dueLoaf("3:c*", 2);
        dueLoaf("3!!!", 1);
        dueLoaf("a+3:", 0);
        dueWorks("x9g*", 1);
        dueWorks("m0;q;q", 3);
    }

    @Says("a character is a syntax error if no loaf (or no works) as a text, of any length, begins with the characters "
            + "before it and this character.")
    static void terms_worksThatOnlyALongerBufferCouldEndAreNoError() {
        dueWorks("m0;".repeat(20), 60);
        dueWorks("x0a+;".repeat(11) + "m0;j0", 60);
        dueWorks("x0a+;".repeat(11) + "m0;j;", 59);
        dueWorks("m0;".repeat(19) + "m0x", 59);
    }

    @Says("a character is a syntax error if no loaf (or no works) as a text, of any length, begins with the characters "
            + "before it and this character.")
    static void terms_aTextThatIsBegunIsNoError() {
        for (String text : new String[] {"2", "2:", "2:a", "7:f", "7:f-", "7:f-a"}) {
            dueLoaf(text, text.length());
        }
        for (String text : new String[] {"x", "x5", "x5f", "j", "j0", "j0/", "m", "z", "m0;", "m0;x", "l5;j5/"}) {
            dueWorks(text, text.length());
        }
    }

    // ---- 8: append

    @Says("Appends a character to the buffer.")
    static void promise08_theCharacterComesBehindTheOthers() {
        StrandLoaves x = new StrandLoaves();
        Checks.type(x, "3:b-");
        x.append('a');
        x.append('+');
        x.lay();
        Checks.dueText(x, 0, "3:b-a+");
        Checks.due("count(6): append is not undoable", x.count(6), 1);
    }

    @Says("`code`: the character code, 33 to 126")
    static void promise08_theCodes33And126AreAppended() {
        StrandLoaves x = new StrandLoaves();
        Checks.due("append(33)", x.append(33), 1);
        Checks.due("append(126)", x.append(126), 2);
    }

    @Says("Returns the new length of the buffer.")
    static void promise08_lengthsGoFrom1To60() {
        StrandLoaves x = new StrandLoaves();
        for (int length = 1; length <= 60; length++) {
            Checks.due("append(" + (33 + length) + ")", x.append(33 + length), length);
        }
        x.clearBuffer();
        Checks.due("append(33) to a cleared buffer", x.append(33), 1);
    }

    @Says("Throws `IllegalArgumentException` if code is not 33 to 126")
    static void promise08_theCodes32And127AreRefused() {
        StrandLoaves x = new StrandLoaves();
        for (int code : new int[] {32, 127, 31, 128, 0, -1, 33 + 65536, -33, Boundaries.LOW, Boundaries.HIGH}) {
            Checks.throwing(x, "append(" + code + ")", Checks.ARGUMENT, () -> x.append(code));
        }
        Checks.due("clearBuffer()", x.clearBuffer(), 0);
    }

    @Says("Throws `IllegalStateException` if the buffer has 60 characters")
    static void promise08_aFullBufferTakesNoMore() {
        StrandLoaves x = new StrandLoaves();
        Checks.type(x, "~".repeat(59));
        Checks.due("append(33) of the 60th", x.append(33), 60);
        Checks.throwing(x, "append(33) of a 61st", Checks.STATE, () -> x.append(33));
        Checks.throwing(x, "append(126) of a 61st", Checks.STATE, () -> x.append(126));
        x.clearBuffer();
        Checks.due("append(33)", x.append(33), 1);
    }

    // ---- 9: clearBuffer

    @Says("Clears the buffer.")
    static void promise09_nothingOfTheBufferStays() {
        StrandLoaves x = new StrandLoaves();
        Checks.type(x, "3:a+b-");
        x.clearBuffer();
        Checks.throwing(x, "lay()", Checks.ARGUMENT, x::lay);
        Checks.type(x, "2:");
        x.lay();
        Checks.dueText(x, 0, "2:");
        Checks.due("count(6): clearBuffer is not undoable", x.count(6), 1);
    }

    @Says("Returns the length that it had.")
    static void promise09_itHad0To60() {
        StrandLoaves x = new StrandLoaves();
        Checks.due("clearBuffer() of an empty one", x.clearBuffer(), 0);
        Checks.type(x, "!".repeat(60));
        Checks.due("clearBuffer() of a full one", x.clearBuffer(), 60);
        Checks.due("clearBuffer() again", x.clearBuffer(), 0);
        x.append(33);
        Checks.due("clearBuffer() of one", x.clearBuffer(), 1);
    }

    // ---- 10: firstError

    @Says("Finds the first syntax error of the buffer.")
    static void promise10_theBufferStays() {
        StrandLoaves x = new StrandLoaves();
        Checks.type(x, "3:a+c+");
        Checks.due("firstError(false)", x.firstError(false), 4);
        Checks.due("firstError(true)", x.firstError(true), 0);
        Checks.due("firstError(false) again", x.firstError(false), 4);
        Checks.due("clearBuffer()", x.clearBuffer(), 6);
        Checks.due("count(6): it is not undoable", x.count(6), 0);
    }

    @Says("`areWorks`: whether it is read as works, otherwise as a loaf")
    static void promise10_aLoafIsNoWorksAndWorksAreNoLoaf() {
        dueLoaf("3:a+", 4);
        dueWorks("3:a+", 0);
        dueWorks("x0a+", 4);
        dueLoaf("x0a+", 0);
        dueLoaf("5", 1);
        dueWorks("5", 0);
    }

    @Says("`areWorks`: whether it is read as works, otherwise as a loaf")
    static void promise10_theLoavesOfTheBoardDoNotMatter() {
        StrandLoaves x = new StrandLoaves();
        Checks.type(x, "x5f+;j4/3");
        Checks.due("firstError(true) without loaves", x.firstError(true), 9);
        StrandLoaves y = Boundaries.sixLoaves();
        Checks.type(y, "2:b+");
        Checks.due("firstError(false) with six loaves", y.firstError(false), 2);
        StrandLoaves z = new StrandLoaves();
        Checks.type(z, Boundaries.FIRST_HIDES_16);
        Checks.due("firstError(false) without dough", z.firstError(false), 34);
    }

    @Says("Returns the index of the first character that is a syntax error; ")
    static void promise10_theErrorMayBeTheFirstCharacterOrTheLast() {
        dueLoaf("!", 0);
        dueWorks("!", 0);
        dueLoaf("3:" + "a+".repeat(23) + "a!", 49);
        dueWorks("m0;".repeat(19) + "m0!", 59);
        dueWorks("m0;".repeat(19) + "m!;", 58);
        dueLoaf("!".repeat(60), 0);
        dueWorks("!".repeat(60), 0);
    }

    @Says("the length of the buffer if there is none.")
    static void promise10_withoutAnErrorItIsTheLength() {
        dueLoaf("", 0);
        dueWorks("", 0);
        dueLoaf("2", 1);
        dueWorks("z", 1);
        dueLoaf("3:" + "a+".repeat(24), 50);
        dueWorks("m0;".repeat(20), 60);
    }

    // ---- 11: work

    @Says("Does the works that the buffer is as a text, part by part, ")
    static void promise11_eachPartFindsWhatThePartsAheadOfItLeft() {
        StrandLoaves x = Checks.with("3:", "3:b+");
        Checks.due("work()", Checks.works(x, "x0a+;j1/0;j0/1;t0;m0;r0;z0;z1"), 8);
        Checks.dueText(x, 0, "3:b+a+");
        Checks.dueText(x, 1, "3:b+");
        Checks.due("count(5)", x.count(5), 3);
    }

    @Says("up to the first part for which the method would throw an exception, ")
    static void promise11_whatStandsAheadOfTheStopIsDoneWhatStandsBehindItIsNot() {
        StrandLoaves x = Checks.with("3:", "3:");
        Checks.due("work()", Checks.works(x, "x0a+;x0b-;z1;x0a+;x1a+"), 2);
        Checks.dueText(x, 0, "3:a+b-");
        Checks.dueText(x, 1, "3:");
        Checks.due("work() with the last part refused", Checks.works(x, "z0;z0;z0"), 2);
        Checks.dueText(x, 0, "3:");
    }

    @Says("and clears the buffer. ")
    static void promise11_theBufferIsClearedAlsoByAStop() {
        StrandLoaves x = Checks.with("3:");
        Checks.works(x, "x0a+");
        Checks.due("clearBuffer() behind all", x.clearBuffer(), 0);
        Checks.works(x, "z0;z0;z0");
        Checks.due("clearBuffer() behind a stop", x.clearBuffer(), 0);
        Checks.works(x, "z5");
        Checks.due("clearBuffer() behind a stop at once", x.clearBuffer(), 0);
    }

    @Says("Undoable, as one call, also if nothing is done. ")
    static void promise11_allPartsAreUndoneAsOneCall() {
        StrandLoaves x = Checks.with("3:a+b-", "3:b+");
        Checks.works(x, "m0;t1;j0/1;x1a-;l0;r1");
        Checks.due("count(6)", x.count(6), 3);
        Checks.due("undo()", x.undo(), 2);
        Checks.dueText(x, 0, "3:a+b-");
        Checks.dueText(x, 1, "3:b+");
        Checks.due("count(5)", x.count(5), 0);
    }

    @Says("Undoable, as one call, also if nothing is done. ")
    static void promise11_aWorkThatDoesNothingIsUndoableToo() {
        StrandLoaves x = new StrandLoaves();
        Checks.due("work()", Checks.works(x, "m0"), 0);
        Checks.due("count(6)", x.count(6), 1);
        Checks.due("stopped(1)", x.stopped(1), 3);
        Checks.due("undo()", x.undo(), 0);
        Checks.due("stopped(1)", x.stopped(1), -1);
    }

    @Says("The latest stop is that of this call then, or none, if all are done.")
    static void promise11_aStopTakesThePlaceOfTheOneBefore() {
        StrandLoaves x = Checks.with("3:");
        Checks.works(x, "x0a+;z0;z0");
        Checks.due("stopped(0)", x.stopped(0), 2);
        Checks.due("stopped(1)", x.stopped(1), 6);
        Checks.works(x, "m0;m1");
        Checks.due("stopped(0)", x.stopped(0), 1);
        Checks.due("stopped(1)", x.stopped(1), 3);
    }

    @Says("The latest stop is that of this call then, or none, if all are done.")
    static void promise11_ifAllAreDoneThereIsNoStop() {
        StrandLoaves x = Checks.with("3:");
        Checks.works(x, "z0");
        Checks.due("stopped(0)", x.stopped(0), 0);
        Checks.works(x, "m0");
        Checks.due("stopped(0)", x.stopped(0), -1);
        Checks.due("stopped(1)", x.stopped(1), -1);
    }

    @Says("Returns how many parts are done.")
    static void promise11_0To20PartsAreDone() {
        StrandLoaves x = Checks.with("3:");
        Checks.due("work() of none that can be done", Checks.works(x, "z0;m0"), 0);
        Checks.due("work() of one", Checks.works(x, "m0"), 1);
        Checks.due("work() of twenty", Checks.works(x, "l0;".repeat(19) + "t0"), 20);
        Checks.due("work() of twenty with the last refused", Checks.works(x, "l0;".repeat(19) + "z0"), 19);
    }

    @Says("Throws `IllegalArgumentException` if the buffer is not complete works as a text (the buffer stays)")
    static void promise11_noWorksWorksThatAreBegunAndErrorsAreRefused() {
        String[] texts = {"", "x", "x0", "x0a", "m", "j0", "j0/", "z", "m0;", "m0;x0a", "m0;".repeat(20), "m0;;m0",
            ";m0", "m6", "x0g+", "x0a*", "j0:1", "3:a+", "m0m0", "M0", "q0"};
        for (String text : texts) {
            StrandLoaves x = Checks.with("3:a+");
            Checks.type(x, text);
            Checks.throwing(x, "work() of " + text, Checks.ARGUMENT, x::work);
            Checks.dueText(x, 0, "3:a+");
            Checks.due("the buffer stays", x.clearBuffer(), text.length());
        }
    }

    @Says("Throws `IllegalArgumentException` if the buffer is not complete works as a text (the buffer stays)")
    static void promise11_aRefusedWorkLeavesTheLatestStop() {
        StrandLoaves x = Checks.with("3:");
        Checks.works(x, "m0;z0");
        Checks.type(x, "m0;");
        Checks.throwing(x, "work()", Checks.ARGUMENT, x::work);
        Checks.due("stopped(0)", x.stopped(0), 1);
        Checks.due("stopped(1)", x.stopped(1), 6);
        Checks.type(x, "t0");
        Checks.due("work() of what stayed", x.work(), 2);
    }

    // ---- 12: stopped

    private static void dueStop(StrandLoaves x, String text, int part, int reason) {
        Checks.due("work() of " + text, Checks.works(x, text), part);
        Checks.due("stopped(0) of " + text, x.stopped(0), part);
        Checks.due("stopped(1) of " + text, x.stopped(1), reason);
        x.undo();
    }

    @Says("Tells of the latest stop of work().")
    static void promise12_refusedCallsOfOtherMethodsAreNoStops() {
        StrandLoaves x = Checks.with("3:");
        Checks.throwing(x, "back(0)", Checks.STATE, () -> x.back(0));
        Checks.throwing(x, "cross(1, 0, true)", Checks.NO_SUCH, () -> x.cross(1, 0, true));
        Checks.due("stopped(0)", x.stopped(0), -1);
        Checks.works(x, "m0;z0");
        Checks.throwing(x, "bake(5)", Checks.NO_SUCH, () -> x.bake(5));
        x.cross(0, 0, true);
        x.keep();
        Checks.due("stopped(0)", x.stopped(0), 1);
        Checks.due("stopped(1)", x.stopped(1), 6);
    }

    @Says("`what`: 0: the number of the part that stopped it, from 0; ")
    static void promise12_partsGoFrom0To19() {
        StrandLoaves x = Checks.with("3:");
        dueStop(x, "z0", 0, 6);
        dueStop(x, "m0;z0;m0", 1, 6);
        dueStop(x, "m0;".repeat(19) + "z0", 19, 6);
        dueStop(x, "x0a+;z0;j0/0;z0;m0", 3, 6);
    }

    @Says("1: the reason: 1 or 2, ")
    static void promise12_reason1Of25Crossings() {
        StrandLoaves x = Checks.with("7:" + "a+b-c+d-e+f-".repeat(3) + "a+b-c+d-e+", "7:a+a+", "7:a+");
        dueStop(x, "x0a+;x0a+", 1, 1);
        dueStop(x, "j0/1", 0, 1);
        dueStop(x, "j0/2;j0/2", 1, 1);
        dueStop(x, "j0/0", 0, 1);
    }

    @Says("1: the reason: 1 or 2, ")
    static void promise12_reason2OfTooLittleDough() {
        StrandLoaves x = Checks.with(Boundaries.FIRST_ABOVE_24, Boundaries.FIRST_USES_29, "2:a+", "2:a-");
        dueStop(x, "m0", 0, 2);
        dueStop(x, "r0;t0", 1, 2);
        dueStop(x, "x1a+", 0, 2);
        dueStop(x, "x1a-;x1a-", 1, 2);
        dueStop(x, "j1/2", 0, 2);
        dueStop(x, "j1/3;j1/3", 1, 2);
    }

    @Says("3 if there is no such loaf, ")
    static void promise12_reason3OfNoSuchLoaf() {
        StrandLoaves x = Checks.with("7:a+", "3:");
        for (String text : new String[] {"x2a+", "x5f-", "m2", "t3", "r4", "l5", "z2", "j2/0", "j0/2", "j5/5"}) {
            dueStop(x, text, 0, 3);
        }
        StrandLoaves y = new StrandLoaves();
        dueStop(y, "l0", 0, 3);
    }

    @Says("4 if it has no such place, ")
    static void promise12_reason4OfNoSuchPlace() {
        StrandLoaves x = Checks.with("2:", "6:", "7:", Boundaries.FULL_WITHOUT_DOUGH);
        dueStop(x, "x0b+", 0, 4);
        dueStop(x, "x0f-", 0, 4);
        dueStop(x, "x1e+;x1f+", 1, 4);
        dueStop(x, "x3c+", 0, 4);
        Checks.due("work() at the last place", Checks.works(x, "x2f+"), 1);
    }

    @Says("5 if they have not as many strands, ")
    static void promise12_reason5OfOtherStrandsAheadOf1And2() {
        StrandLoaves x = Checks.with("2:", "3:", Boundaries.LONGEST, Boundaries.FULL_WITHOUT_DOUGH,
                Boundaries.FIRST_HIDES_15);
        dueStop(x, "j0/1", 0, 5);
        dueStop(x, "j1/0", 0, 5);
        dueStop(x, "j2/3", 0, 5);
        dueStop(x, "j3/2", 0, 5);
        dueStop(x, "j4/3", 0, 5);
        dueStop(x, "j1/1;j1/4", 1, 5);
    }

    @Says("or 6 if it has no crossing")
    static void promise12_reason6OfNoCrossing() {
        StrandLoaves x = Checks.with("2:", "3:a+");
        dueStop(x, "z0", 0, 6);
        dueStop(x, "z1;z1", 1, 6);
        dueStop(x, "z1;m1;l1;z1;z0", 3, 6);
    }

    @Says("Returns the number; NONE if there is no stop.")
    static void promise12_noStopIsNone() {
        StrandLoaves x = new StrandLoaves();
        Checks.due("stopped(0)", x.stopped(0), -1);
        Checks.due("stopped(1)", x.stopped(1), -1);
        Checks.works(x, "z0");
        x.undo();
        Checks.due("stopped(0) behind undo()", x.stopped(0), -1);
        Checks.due("stopped(1) behind undo()", x.stopped(1), -1);
    }

    @Says("Throws `IllegalArgumentException` if what is neither 0 nor 1")
    static void promise12_aWhatOfLess1OrOf2IsRefused() {
        StrandLoaves x = Checks.with("2:");
        Checks.works(x, "z0");
        for (int what : new int[] {-1, 2, Boundaries.LOW, Boundaries.HIGH}) {
            Checks.throwing(x, "stopped(" + what + ")", Checks.ARGUMENT, () -> x.stopped(what));
        }
        Checks.due("stopped(0)", x.stopped(0), 0);
        Checks.due("stopped(1)", x.stopped(1), 6);
    }
}
