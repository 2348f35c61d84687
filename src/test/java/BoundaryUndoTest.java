import java.util.function.LongSupplier;

/** The boundaries of undo, the snapshot and exceptions: the terms, and promises 13 to 15; a test for each. */
public final class BoundaryUndoTest {
    private BoundaryUndoTest() {
    }

    public static void main(String[] args) {
        Boundaries.run(BoundaryUndoTest.class);
    }

    private static void dueSaved(StrandLoaves x, String call, LongSupplier made, int more) {
        int before = x.count(6);
        made.getAsLong();
        Checks.due("count(6) behind " + call, x.count(6), before + more);
    }

    // ---- the terms of undo and the snapshot

    @Says("Each method that is marked \"undoable\" ")
    static void terms_eachOfTheEightUndoableMethodsSavesOneState() {
        StrandLoaves x = new StrandLoaves();
        x.keep();
        Checks.type(x, "3:a+");
        dueSaved(x, "lay()", x::lay, 1);
        dueSaved(x, "cross(0, 0, true)", () -> x.cross(0, 0, true), 1);
        dueSaved(x, "back(0)", () -> x.back(0), 1);
        dueSaved(x, "change(0, 1)", () -> x.change(0, 1), 1);
        dueSaved(x, "join(0, 0)", () -> x.join(0, 0), 1);
        dueSaved(x, "bake(0)", () -> x.bake(0), 1);
        x.undo();
        x.undo();
        Checks.type(x, "m0;t0;z0");
        dueSaved(x, "work()", x::work, 1);
        dueSaved(x, "restore()", x::restore, 1);
    }

    @Says("Each method that is marked \"undoable\" ")
    static void terms_noOtherMethodSavesAState() {
        StrandLoaves x = Checks.with("3:a+");
        dueSaved(x, "append(33)", () -> x.append(33), 0);
        dueSaved(x, "clearBuffer()", x::clearBuffer, 0);
        dueSaved(x, "firstError(true)", () -> x.firstError(true), 0);
        dueSaved(x, "stopped(0)", () -> x.stopped(0), 0);
        dueSaved(x, "keep()", x::keep, 0);
        dueSaved(x, "crossing(0, 0, 0)", () -> x.crossing(0, 0, 0), 0);
        dueSaved(x, "strand(0, 0, 0)", () -> x.strand(0, 0, 0), 0);
        dueSaved(x, "loaf(0, 10)", () -> x.loaf(0, 10), 0);
        dueSaved(x, "loose(0, 0)", () -> x.loose(0, 0), 0);
        dueSaved(x, "count(4)", () -> x.count(4), 0);
        dueSaved(x, "whyNot(0, 0, true)", () -> x.whyNot(0, 0, true), 0);
        dueSaved(x, "ifChanged(0, 1)", () -> x.ifChanged(0, 1), 0);
        dueSaved(x, "alike(0, 0)", () -> x.alike(0, 0), 0);
        dueSaved(x, "period(0)", () -> x.period(0), 0);
        dueSaved(x, "looseShare()", () -> (long) x.looseShare(), 0);
        dueSaved(x, "digest()", x::digest, 0);
        dueSaved(x, "undo()", x::undo, -1);
    }

    @Says("and does not throw an exception ")
    static void terms_anUndoableMethodThatThrowsSavesNoState() {
        StrandLoaves x = Checks.with(Boundaries.FIRST_ABOVE_24, "2:");
        Checks.throwing(x, "lay()", Checks.ARGUMENT, x::lay);
        Checks.throwing(x, "bake(2)", Checks.NO_SUCH, () -> x.bake(2));
        Checks.throwing(x, "cross(0, 0, true)", Checks.STATE, () -> x.cross(0, 0, true));
        Checks.throwing(x, "back(1)", Checks.STATE, () -> x.back(1));
        Checks.throwing(x, "change(0, 0)", Checks.STATE, () -> x.change(0, 0));
        Checks.throwing(x, "join(0, 0)", Checks.STATE, () -> x.join(0, 0));
        Checks.throwing(x, "work()", Checks.ARGUMENT, x::work);
        Checks.throwing(x, "restore()", Checks.STATE, x::restore);
        Checks.due("count(6)", x.count(6), 2);
        Checks.due("undo()", x.undo(), 1);
        Checks.due("count(0): the latest lay() is undone", x.count(0), 1);
    }

    @Says("saves the state from before it ")
    static void terms_undoBringsBackTheStateFromBeforeTheCall() {
        StrandLoaves x = Boundaries.sixLoaves();
        x.cross(5, 0, true);
        Checks.due("undo()", x.undo(), 5);
        Checks.dueText(x, 5, "7:f-e-d-c-b-");
        Checks.due("strand(5, 6, 0)", x.strand(5, 6, 0), 1);
        Checks.due("loaf(5, 9)", x.loaf(5, 9), 1);
    }

    @Says("(also if it changes nothing): ")
    static void terms_aStateIsSavedAlsoIfNothingIsChanged() {
        StrandLoaves x = Checks.with("2:");
        x.keep();
        long before = x.digest();
        dueSaved(x, "restore() of the same state", x::restore, 1);
        dueSaved(x, "join(0, 0) of an empty word", () -> x.join(0, 0), 1);
        dueSaved(x, "change(0, 3) of an empty word", () -> x.change(0, 3), 1);
        dueSaved(x, "change(0, 1) of an empty word", () -> x.change(0, 1), 1);
        Checks.type(x, "z5");
        dueSaved(x, "work() that stops at once", x::work, 1);
        for (int left = 5; left >= 1; left--) {
            Checks.due("undo()", x.undo(), left);
        }
        Checks.due("digest()", x.digest(), before);
    }

    @Says("all, ")
    static void terms_allLoavesAndTheChangesSoFarAreBroughtBack() {
        StrandLoaves x = Boundaries.sixLoaves();
        x.change(4, 0);
        Checks.works(x, "m1;m2;t3;r5;l4;x0a+");
        Checks.due("count(5)", x.count(5), 6);
        Checks.due("undo()", x.undo(), 5);
        Checks.due("count(5)", x.count(5), 1);
        String[] want = {"2:", "3:b+", "4:c-a+", "5:d+d+a-", "6:e-e+b-c-", "7:f-e-d-c-b-"};
        for (int loaf = 0; loaf <= 5; loaf++) {
            Checks.dueText(x, loaf, want[loaf]);
        }
    }

    @Says("all, ")
    static void terms_theChangesSoFarAreOfTheSnapshotToo() {
        StrandLoaves x = Checks.with("2:");
        x.change(0, 0);
        x.keep();
        Checks.works(x, "m0;t0");
        Checks.due("count(5)", x.count(5), 3);
        x.restore();
        Checks.due("count(5) behind restore()", x.count(5), 1);
        x.undo();
        Checks.due("count(5) behind undo() of restore()", x.count(5), 3);
        x.undo();
        Checks.due("count(5) behind undo() of work()", x.count(5), 1);
    }

    @Says("also the latest stop, ")
    static void terms_theLatestStopIsBroughtBack() {
        StrandLoaves x = Checks.with("2:");
        Checks.works(x, "m0;z0");
        Checks.works(x, "m0;m0;m3");
        Checks.works(x, "m0");
        int[][] want = {{2, 3}, {1, 6}, {-1, -1}};
        for (int[] stop : want) {
            x.undo();
            Checks.due("stopped(0)", x.stopped(0), stop[0]);
            Checks.due("stopped(1)", x.stopped(1), stop[1]);
        }
    }

    @Says("also the latest stop, ")
    static void terms_theLatestStopIsOfTheSnapshotToo() {
        StrandLoaves x = Checks.with("2:");
        Checks.works(x, "m0;z0");
        x.keep();
        Checks.works(x, "m0");
        x.restore();
        Checks.due("stopped(0)", x.stopped(0), 1);
        Checks.due("stopped(1)", x.stopped(1), 6);
    }

    @Says("but the buffer, ")
    static void terms_theBufferStaysAsItIs() {
        StrandLoaves x = Checks.with("2:");
        x.keep();
        x.change(0, 0);
        Checks.type(x, "3:b-");
        x.undo();
        Checks.due("firstError(false) behind undo()", x.firstError(false), 4);
        x.restore();
        Checks.due("append(97) behind restore()", x.append('a'), 5);
        x.append('+');
        x.lay();
        Checks.dueText(x, 1, "3:b-a+");
        x.undo();
        Checks.due("clearBuffer() behind undo() of lay()", x.clearBuffer(), 0);
    }

    @Says("the saved states ")
    static void terms_theSavedStatesStayAsTheyAre() {
        StrandLoaves x = Checks.with("2:", "3:", "4:");
        x.keep();
        Checks.due("undo()", x.undo(), 2);
        x.bake(0);
        Checks.due("restore()", x.restore(), 3);
        Checks.due("count(6): restore() brings back no saved states", x.count(6), 4);
        x.undo();
        Boundaries.dueStrandsOfAll(x, "3");
        x.undo();
        Boundaries.dueStrandsOfAll(x, "23");
        x.undo();
        Boundaries.dueStrandsOfAll(x, "2");
        Checks.due("undo()", x.undo(), 0);
        Boundaries.dueStrandsOfAll(x, "");
    }

    @Says("and the snapshot.")
    static void terms_theSnapshotStaysAsItIs() {
        StrandLoaves x = Checks.with("2:");
        x.keep();
        Checks.lay(x, "3:");
        x.keep();
        x.undo();
        x.undo();
        Checks.due("count(0)", x.count(0), 0);
        Checks.due("restore()", x.restore(), 2);
        Boundaries.dueStrandsOfAll(x, "23");
        x.undo();
        Checks.due("restore() behind undo()", x.restore(), 2);
    }

    @Says("At most 6 states are saved; ")
    static void terms_sixStatesAreSavedASeventhIsNot() {
        StrandLoaves x = Checks.with("2:", "2:", "2:", "2:", "2:");
        Checks.due("count(6) behind 5", x.count(6), 5);
        Checks.lay(x, "2:");
        Checks.due("count(6) behind 6", x.count(6), 6);
        x.bake(0);
        Checks.due("count(6) behind 7", x.count(6), 6);
        x.bake(0);
        Checks.due("count(6) behind 8", x.count(6), 6);
    }

    @Says("At most 6 states are saved; ")
    static void terms_allSixSavedStatesCanBeBroughtBack() {
        StrandLoaves x = Checks.with("2:", "3:", "4:", "5:", "6:", "7:");
        for (int left = 5; left >= 0; left--) {
            Checks.due("undo()", x.undo(), left);
            Boundaries.dueStrandsOfAll(x, "23456".substring(0, left));
        }
    }

    @Says("the oldest one is dropped first.")
    static void terms_aSeventhStateDropsTheFirst() {
        StrandLoaves x = Checks.with("7:");
        for (int place = 0; place <= 5; place++) {
            x.cross(0, place, true);
        }
        Checks.due("count(6)", x.count(6), 6);
        for (int left = 5; left >= 0; left--) {
            Checks.due("undo()", x.undo(), left);
            Checks.dueText(x, 0, "7:" + "a+b+c+d+e+f+".substring(0, 2 * left));
        }
        Checks.throwing(x, "undo() of the first", Checks.STATE, x::undo);
    }

    @Says("the oldest one is dropped first.")
    static void terms_savedStatesGoRoundAgainAndAgain() {
        StrandLoaves x = Checks.with("7:");
        int crossings = 0;
        for (int round = 0; round < 20; round++) {
            for (int i = 0; i < 4; i++) {
                x.cross(0, crossings % 6, true);
                crossings++;
            }
            for (int i = 0; i < 3; i++) {
                x.undo();
                crossings--;
                Checks.due("loaf(0, 1)", x.loaf(0, 1), crossings);
            }
            Checks.due("count(6)", x.count(6), Math.min(round + 2, 3));
            x.cross(0, 0, false);
            x.undo();
            Checks.due("loaf(0, 1)", x.loaf(0, 1), crossings);
        }
    }

    // ---- the terms of exceptions

    private static void refuseChanges(StrandLoaves x) {
        Checks.throwing(x, "lay()", Checks.ARGUMENT, x::lay);
        Checks.throwing(x, "bake(5)", Checks.NO_SUCH, () -> x.bake(5));
        Checks.throwing(x, "cross(5, 0, true)", Checks.NO_SUCH, () -> x.cross(5, 0, true));
        Checks.throwing(x, "cross(0, 2, true)", Checks.NO_SUCH, () -> x.cross(0, 2, true));
        Checks.throwing(x, "cross(2, 0, true)", Checks.STATE, () -> x.cross(2, 0, true));
        Checks.throwing(x, "cross(3, 0, true)", Checks.STATE, () -> x.cross(3, 0, true));
        Checks.throwing(x, "back(5)", Checks.NO_SUCH, () -> x.back(5));
        Checks.throwing(x, "back(4)", Checks.STATE, () -> x.back(4));
        Checks.throwing(x, "change(5, 0)", Checks.NO_SUCH, () -> x.change(5, 0));
        Checks.throwing(x, "change(0, 4)", Checks.ARGUMENT, () -> x.change(0, 4));
        Checks.throwing(x, "change(2, 0)", Checks.STATE, () -> x.change(2, 0));
        Checks.throwing(x, "join(5, 0)", Checks.NO_SUCH, () -> x.join(5, 0));
        Checks.throwing(x, "join(0, 5)", Checks.NO_SUCH, () -> x.join(0, 5));
        Checks.throwing(x, "join(0, 1)", Checks.STATE, () -> x.join(0, 1));
        Checks.throwing(x, "join(2, 0)", Checks.STATE, () -> x.join(2, 0));
        Checks.throwing(x, "join(3, 3)", Checks.STATE, () -> x.join(3, 3));
        Checks.throwing(x, "append(32)", Checks.ARGUMENT, () -> x.append(32));
        Checks.throwing(x, "work()", Checks.ARGUMENT, x::work);
    }

    private static void refuseLooks(StrandLoaves x) {
        Checks.throwing(x, "stopped(2)", Checks.ARGUMENT, () -> x.stopped(2));
        Checks.throwing(x, "crossing(5, 0, 0)", Checks.NO_SUCH, () -> x.crossing(5, 0, 0));
        Checks.throwing(x, "crossing(0, 24, 0)", Checks.ARGUMENT, () -> x.crossing(0, 24, 0));
        Checks.throwing(x, "crossing(0, 0, 4)", Checks.ARGUMENT, () -> x.crossing(0, 0, 4));
        Checks.throwing(x, "strand(5, 0, 0)", Checks.NO_SUCH, () -> x.strand(5, 0, 0));
        Checks.throwing(x, "strand(0, 7, 0)", Checks.ARGUMENT, () -> x.strand(0, 7, 0));
        Checks.throwing(x, "strand(0, 0, 5)", Checks.ARGUMENT, () -> x.strand(0, 0, 5));
        Checks.throwing(x, "loaf(5, 0)", Checks.NO_SUCH, () -> x.loaf(5, 0));
        Checks.throwing(x, "loaf(0, 11)", Checks.ARGUMENT, () -> x.loaf(0, 11));
        Checks.throwing(x, "loose(5, 0)", Checks.NO_SUCH, () -> x.loose(5, 0));
        Checks.throwing(x, "loose(0, 24)", Checks.ARGUMENT, () -> x.loose(0, 24));
        Checks.throwing(x, "count(7)", Checks.ARGUMENT, () -> x.count(7));
        Checks.throwing(x, "whyNot(5, 0, true)", Checks.NO_SUCH, () -> x.whyNot(5, 0, true));
        Checks.throwing(x, "whyNot(0, 2, true)", Checks.NO_SUCH, () -> x.whyNot(0, 2, true));
        Checks.throwing(x, "ifChanged(5, 0)", Checks.NO_SUCH, () -> x.ifChanged(5, 0));
        Checks.throwing(x, "ifChanged(0, 4)", Checks.ARGUMENT, () -> x.ifChanged(0, 4));
        Checks.throwing(x, "alike(5, 0)", Checks.NO_SUCH, () -> x.alike(5, 0));
        Checks.throwing(x, "alike(0, 5)", Checks.NO_SUCH, () -> x.alike(0, 5));
        Checks.throwing(x, "period(5)", Checks.NO_SUCH, () -> x.period(5));
    }

    @Says("A call that throws an exception changes nothing.")
    static void terms_refusedCallsThatWouldChangeLeaveAllAsItIs() {
        StrandLoaves x = Boundaries.busyBoard();
        refuseChanges(x);
        Boundaries.dueTwins(x, Boundaries.busyBoard());
    }

    @Says("A call that throws an exception changes nothing.")
    static void terms_refusedLooksLeaveAllAsItIs() {
        StrandLoaves x = Boundaries.busyBoard();
        refuseLooks(x);
        Boundaries.dueTwins(x, Boundaries.busyBoard());
    }

    @Says("A call that throws an exception changes nothing.")
    static void terms_aRefusedLayAndAFullBufferLeaveTheBuffer() {
        StrandLoaves x = Boundaries.sixLoaves();
        Checks.type(x, "2:" + "a-a+".repeat(8));
        Checks.throwing(x, "lay() of a seventh", Checks.STATE, x::lay);
        x.bake(0);
        Checks.throwing(x, "lay() without dough", Checks.STATE, x::lay);
        Checks.type(x, "a-".repeat(13));
        Checks.throwing(x, "append(97) of a 61st", Checks.STATE, () -> x.append('a'));
        Checks.due("firstError(false)", x.firstError(false), 50);
        Checks.due("clearBuffer()", x.clearBuffer(), 60);
    }

    @Says("A call that throws an exception changes nothing.")
    static void terms_aRefusedUndoAndARefusedRestoreLeaveAllAsItIs() {
        StrandLoaves x = new StrandLoaves();
        Checks.throwing(x, "restore()", Checks.STATE, x::restore);
        Checks.lay(x, "3:a+");
        Checks.throwing(x, "restore() without a snapshot", Checks.STATE, x::restore);
        Checks.due("count(6)", x.count(6), 1);
        x.undo();
        Checks.throwing(x, "undo()", Checks.STATE, x::undo);
        Checks.throwing(x, "undo() again", Checks.STATE, x::undo);
        Checks.lay(x, "3:a+");
        Checks.due("count(6)", x.count(6), 1);
        Checks.due("undo()", x.undo(), 0);
    }

    @Says("If several exceptions apply, the one that is named first in the throws clause is thrown.")
    static void terms_ofTwoExceptionsOfLayTheFirstIsThrown() {
        StrandLoaves x = Boundaries.sixLoaves();
        Checks.throwing(x, "lay() of a seventh that is empty", Checks.ARGUMENT, x::lay);
        Checks.type(x, "3:a");
        Checks.throwing(x, "lay() of a seventh that is not complete", Checks.ARGUMENT, x::lay);
        StrandLoaves y = new StrandLoaves();
        Checks.type(y, Boundaries.FIRST_HIDES_16 + "a");
        Checks.throwing(y, "lay() without dough that is not complete", Checks.ARGUMENT, y::lay);
    }

    @Says("If several exceptions apply, the one that is named first in the throws clause is thrown.")
    static void terms_ofTwoExceptionsOfCrossTheFirstIsThrown() {
        StrandLoaves x = Checks.with(Boundaries.FIRST_ABOVE_24, Boundaries.FIRST_HIDES_15);
        Checks.throwing(x, "cross() at no place, full", Checks.NO_SUCH, () -> x.cross(0, 2, true));
        Checks.throwing(x, "cross() at no place, full", Checks.NO_SUCH, () -> x.cross(0, -1, true));
        Checks.throwing(x, "cross() at no place, without dough", Checks.NO_SUCH, () -> x.cross(1, 1, true));
        Checks.throwing(x, "cross() of no loaf at no place", Checks.NO_SUCH, () -> x.cross(2, 9, true));
    }

    @Says("If several exceptions apply, the one that is named first in the throws clause is thrown.")
    static void terms_ofThreeExceptionsOfChangeTheFirstIsThrown() {
        StrandLoaves x = Checks.with(Boundaries.FIRST_ABOVE_24);
        Checks.throwing(x, "change() of no loaf, no how", Checks.NO_SUCH, () -> x.change(1, 4));
        Checks.throwing(x, "change() of no loaf, no how", Checks.NO_SUCH, () -> x.change(-1, -1));
        Checks.throwing(x, "change(), no how, without dough", Checks.ARGUMENT, () -> x.change(0, 4));
        Checks.throwing(x, "change(), no how, without dough", Checks.ARGUMENT, () -> x.change(0, -1));
    }

    @Says("If several exceptions apply, the one that is named first in the throws clause is thrown.")
    static void terms_ofTwoExceptionsOfJoinAndBackTheFirstIsThrown() {
        StrandLoaves x = Checks.with(Boundaries.FIRST_ABOVE_24);
        Checks.throwing(x, "join() of no loaf to a full one", Checks.NO_SUCH, () -> x.join(0, 1));
        Checks.throwing(x, "join() of a full one to no loaf", Checks.NO_SUCH, () -> x.join(1, 0));
        StrandLoaves y = new StrandLoaves();
        Checks.throwing(y, "back() of no loaf", Checks.NO_SUCH, () -> y.back(0));
    }

    @Says("If several exceptions apply, the one that is named first in the throws clause is thrown.")
    static void terms_ofTwoExceptionsOfAppendTheFirstIsThrown() {
        StrandLoaves x = new StrandLoaves();
        Checks.type(x, "!".repeat(60));
        Checks.throwing(x, "append(127) to a full buffer", Checks.ARGUMENT, () -> x.append(127));
        Checks.throwing(x, "append(32) to a full buffer", Checks.ARGUMENT, () -> x.append(32));
        Checks.throwing(x, "append(33) to a full buffer", Checks.STATE, () -> x.append(33));
    }

    @Says("If several exceptions apply, the one that is named first in the throws clause is thrown.")
    static void terms_ofTwoExceptionsOfLooksTheFirstIsThrown() {
        StrandLoaves x = Checks.with("3:a+");
        for (int loaf : new int[] {-1, 1}) {
            Checks.throwing(x, "crossing(" + loaf + ", 24, 0)", Checks.NO_SUCH, () -> x.crossing(loaf, 24, 0));
            Checks.throwing(x, "crossing(" + loaf + ", 0, 4)", Checks.NO_SUCH, () -> x.crossing(loaf, 0, 4));
            Checks.throwing(x, "strand(" + loaf + ", 7, 0)", Checks.NO_SUCH, () -> x.strand(loaf, 7, 0));
            Checks.throwing(x, "strand(" + loaf + ", 0, 5)", Checks.NO_SUCH, () -> x.strand(loaf, 0, 5));
            Checks.throwing(x, "loaf(" + loaf + ", 11)", Checks.NO_SUCH, () -> x.loaf(loaf, 11));
            Checks.throwing(x, "loose(" + loaf + ", -1)", Checks.NO_SUCH, () -> x.loose(loaf, -1));
            Checks.throwing(x, "ifChanged(" + loaf + ", 4)", Checks.NO_SUCH, () -> x.ifChanged(loaf, 4));
        }
    }

    // ---- 13: undo

    @Says("Restores the latest saved state, and drops it.")
    static void promise13_theSecondUndoBringsBackTheStateBeforeThat() {
        StrandLoaves x = Checks.with("3:a+", "4:b-");
        x.change(0, 0);
        x.bake(0);
        x.undo();
        Checks.dueText(x, 0, "3:a-");
        x.undo();
        Checks.dueText(x, 0, "3:a+");
        x.undo();
        Checks.due("count(0)", x.count(0), 1);
        x.undo();
        Checks.due("count(0)", x.count(0), 0);
    }

    @Says("Restores the latest saved state, and drops it.")
    static void promise13_aChangeBehindAnUndoIsUndoneToTheSameState() {
        StrandLoaves x = Checks.with("3:a+");
        x.cross(0, 1, true);
        x.undo();
        x.cross(0, 0, false);
        Checks.due("undo()", x.undo(), 1);
        Checks.dueText(x, 0, "3:a+");
        Checks.due("undo()", x.undo(), 0);
        Checks.due("count(0)", x.count(0), 0);
    }

    @Says("Returns how many saved states are left.")
    static void promise13_5To0AreLeft() {
        StrandLoaves x = Boundaries.busyBoard();
        for (int left = 5; left >= 0; left--) {
            Checks.due("undo()", x.undo(), left);
            Checks.due("count(6)", x.count(6), left);
        }
    }

    @Says("Throws `IllegalStateException` if there is none")
    static void promise13_withoutASavedStateItIsRefused() {
        StrandLoaves x = new StrandLoaves();
        Checks.throwing(x, "undo() of a new object", Checks.STATE, x::undo);
        x.keep();
        Checks.throwing(x, "undo() behind keep()", Checks.STATE, x::undo);
        for (int i = 0; i < 9; i++) {
            x.restore();
        }
        for (int i = 0; i < 6; i++) {
            x.undo();
        }
        Checks.throwing(x, "undo() behind six", Checks.STATE, x::undo);
    }

    // ---- 14: keep

    @Says("Takes a snapshot, in place of the one before.")
    static void promise14_theLatestSnapshotIsRestored() {
        StrandLoaves x = Checks.with("2:", "3:");
        x.keep();
        x.bake(1);
        x.keep();
        Checks.lay(x, "4:");
        Checks.due("restore()", x.restore(), 1);
        Boundaries.dueStrandsOfAll(x, "2");
        x.bake(0);
        x.keep();
        Checks.lay(x, "5:");
        Checks.due("restore() of none", x.restore(), 0);
    }

    @Says("Takes a snapshot, in place of the one before.")
    static void promise14_laterChangesDoNotReachTheSnapshot() {
        StrandLoaves x = Checks.with("3:a+b-", "2:");
        x.keep();
        x.cross(0, 0, true);
        x.change(0, 0);
        x.back(0);
        x.bake(1);
        Checks.works(x, "z4");
        x.restore();
        Checks.dueText(x, 0, "3:a+b-");
        Checks.dueText(x, 1, "2:");
        Checks.due("count(5)", x.count(5), 0);
        Checks.due("stopped(0)", x.stopped(0), -1);
    }

    @Says("Returns how many loaves there are.")
    static void promise14_thereAre0To6() {
        StrandLoaves x = new StrandLoaves();
        Checks.due("keep()", x.keep(), 0);
        for (int loaves = 1; loaves <= 6; loaves++) {
            Checks.lay(x, "2:");
            Checks.due("keep()", x.keep(), loaves);
        }
        Checks.due("count(6): it is not undoable", x.count(6), 6);
        x.undo();
        Checks.due("count(0)", x.count(0), 5);
    }

    // ---- 15: restore

    @Says("Restores the state of the snapshot, which stays. Undoable.")
    static void promise15_theSnapshotStaysForTheNextRestore() {
        StrandLoaves x = Checks.with("3:a+b-");
        x.keep();
        x.bake(0);
        x.restore();
        x.cross(0, 0, true);
        x.change(0, 0);
        x.restore();
        Checks.dueText(x, 0, "3:a+b-");
        x.back(0);
        x.restore();
        Checks.dueText(x, 0, "3:a+b-");
    }

    @Says("Restores the state of the snapshot, which stays. Undoable.")
    static void promise15_itIsUndoable() {
        StrandLoaves x = Checks.with("3:a+b-");
        x.keep();
        x.change(0, 0);
        Checks.lay(x, "2:");
        Checks.works(x, "z1");
        x.restore();
        Checks.due("count(6)", x.count(6), 5);
        Checks.due("undo()", x.undo(), 4);
        Checks.dueText(x, 0, "3:a-b+");
        Checks.dueText(x, 1, "2:");
        Checks.due("count(5)", x.count(5), 1);
        Checks.due("stopped(1)", x.stopped(1), 6);
    }

    @Says("Returns how many loaves there are then.")
    static void promise15_thereAre0Or6Then() {
        StrandLoaves x = new StrandLoaves();
        x.keep();
        Checks.due("restore() of the same", x.restore(), 0);
        StrandLoaves y = Boundaries.sixLoaves();
        y.keep();
        for (int i = 0; i < 6; i++) {
            y.bake(0);
        }
        Checks.due("restore() of six", y.restore(), 6);
        Boundaries.dueStrandsOfAll(y, "234567");
        Checks.dueText(y, 5, "7:f-e-d-c-b-");
    }

    @Says("Throws `IllegalStateException` if there is no snapshot")
    static void promise15_withoutASnapshotItIsRefusedWithAnEmptyOneItIsNot() {
        StrandLoaves x = new StrandLoaves();
        Checks.throwing(x, "restore() of a new object", Checks.STATE, x::restore);
        Checks.lay(x, "2:");
        x.change(0, 0);
        Checks.throwing(x, "restore() without keep()", Checks.STATE, x::restore);
        x.undo();
        x.undo();
        x.keep();
        Checks.due("restore()", x.restore(), 0);
    }
}
