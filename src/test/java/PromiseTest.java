/** Each promise of DOC.md by hand: ordinary inputs, the edges that it names, wrong inputs. */
public final class PromiseTest {
    private static final int LOW = Integer.MIN_VALUE;
    private static final int HIGH = Integer.MAX_VALUE;

    // Strand 0 hides at each crossing of it, so it uses 2 of dough at each.
    private static final String FIRST_HIDES_15 = "2:" + "a-a+".repeat(7) + "a-";
    private static final String FIRST_HIDES_16 = "2:" + "a-a+".repeat(8);
    // Strand 0 goes above at each crossing, the others hide in turns, and all come home every four crossings.
    private static final String FIRST_ABOVE_24 = "3:" + "a+b+b-a-".repeat(6);
    // Strand 0 hides 15 times and has no dough left, and there are 24 crossings.
    private static final String FULL_WITHOUT_DOUGH = "3:" + "a-a+".repeat(7) + "b+".repeat(9) + "a-";

    public static void main(String[] args) {
        aNewObject();
        laying();
        layingWithoutDough();
        baking();
        crossingOver();
        takingBack();
        changing();
        changingWithoutDough();
        joining();
        appending();
        clearing();
        errorsOfLoaves();
        errorsOfWorks();
        working();
        stops();
        undoing();
        undoingKeepsBuffer();
        keepingAndRestoring();
        looksAtCrossings();
        looksAtStrands();
        numbersOfLoaves();
        shortWords();
        looseWords();
        counts();
        reasons();
        changesThatWouldBe();
        likeness();
        periods();
        shares();
        digests();
        Checks.end("PromiseTest");
    }

    private static void aNewObject() {
        StrandLoaves x = new StrandLoaves();
        Checks.due("NONE", StrandLoaves.NONE, -1);
        for (int what = 0; what <= 6; what++) {
            Checks.due("1: count(" + what + ")", x.count(what), 0);
        }
        Checks.due("1: stopped(0)", x.stopped(0), -1);
        Checks.due("1: stopped(1)", x.stopped(1), -1);
        Checks.due("1: clearBuffer()", x.clearBuffer(), 0);
        Checks.throwing(x, "1: undo()", Checks.STATE, x::undo);
        Checks.throwing(x, "1: restore()", Checks.STATE, x::restore);
        Checks.throwing(x, "1: loaf(0, 0)", Checks.NO_SUCH, () -> x.loaf(0, 0));
    }

    private static void laying() {
        StrandLoaves x = new StrandLoaves();
        Checks.throwing(x, "2: lay() of nothing", Checks.ARGUMENT, x::lay);
        for (String text : new String[] {"2", "8:", "1:", "3:a", "3:c+", "3:a+b", "3:a*", "x0a+", "3;", "3:a+;"}) {
            StrandLoaves y = new StrandLoaves();
            Checks.type(y, text);
            Checks.throwing(y, "2: lay() of " + text, Checks.ARGUMENT, y::lay);
            Checks.due("2: the buffer stays", y.clearBuffer(), text.length());
        }
        Checks.due("2: lay()", Checks.lay(x, "2:"), 0);
        Checks.due("2: the buffer is cleared", x.clearBuffer(), 0);
        Checks.dueText(x, 0, "2:");
        String longest = "7:" + "a+b-c+d-e+f-".repeat(4);
        Checks.due("2: lay() of 24 crossings", Checks.lay(x, longest), 1);
        Checks.dueText(x, 1, longest);
        for (int i = 2; i < 6; i++) {
            Checks.due("2: lay()", Checks.lay(x, "3:b+"), i);
        }
        Checks.type(x, "3:b+");
        Checks.throwing(x, "2: lay() of a seventh", Checks.STATE, x::lay);
        Checks.due("2: the buffer stays", x.append('b'), 5);
        Checks.throwing(x, "2: lay() of a seventh that is not complete", Checks.ARGUMENT, x::lay);
        Checks.due("2: undo()", x.undo(), 5);
        Checks.due("2: lay() is undone", x.count(0), 5);
    }

    private static void layingWithoutDough() {
        StrandLoaves x = new StrandLoaves();
        Checks.due("2: lay() with all dough", Checks.lay(x, FIRST_HIDES_15), 0);
        Checks.due("2: no dough is left", x.strand(0, 0, 3), 0);
        Checks.type(x, FIRST_HIDES_16);
        Checks.throwing(x, "2: lay() with too little dough", Checks.STATE, x::lay);
        Checks.due("2: the buffer stays", x.clearBuffer(), FIRST_HIDES_16.length());
        Checks.due("2: lay() without dough, but full", Checks.lay(x, FULL_WITHOUT_DOUGH), 1);
    }

    private static void baking() {
        StrandLoaves x = Checks.with("2:", "3:a+b-", "4:c+");
        Checks.throwing(x, "3: bake(-1)", Checks.NO_SUCH, () -> x.bake(-1));
        Checks.throwing(x, "3: bake(3)", Checks.NO_SUCH, () -> x.bake(3));
        Checks.throwing(x, "3: bake(LOW)", Checks.NO_SUCH, () -> x.bake(LOW));
        Checks.throwing(x, "3: bake(HIGH)", Checks.NO_SUCH, () -> x.bake(HIGH));
        Checks.due("3: bake(1)", x.bake(1), 2);
        Checks.due("3: count(0)", x.count(0), 2);
        Checks.dueText(x, 0, "2:");
        Checks.dueText(x, 1, "4:c+");
        Checks.due("3: undo()", x.undo(), 3);
        Checks.dueText(x, 1, "3:a+b-");
        Checks.dueText(x, 2, "4:c+");
        Checks.due("3: bake(0)", x.bake(0), 0);
        Checks.due("3: bake(1)", x.bake(1), 1);
        Checks.dueText(x, 0, "3:a+b-");
        Checks.due("3: bake(0)", x.bake(0), 2);
        Checks.throwing(x, "3: bake(0) of none", Checks.NO_SUCH, () -> x.bake(0));
    }

    private static void crossingOver() {
        StrandLoaves x = Checks.with("3:");
        Checks.throwing(x, "4: cross(1, 0)", Checks.NO_SUCH, () -> x.cross(1, 0, true));
        Checks.throwing(x, "4: cross(-1, 0)", Checks.NO_SUCH, () -> x.cross(-1, 0, true));
        Checks.throwing(x, "4: cross(0, 2)", Checks.NO_SUCH, () -> x.cross(0, 2, true));
        Checks.throwing(x, "4: cross(0, -1)", Checks.NO_SUCH, () -> x.cross(0, -1, true));
        Checks.throwing(x, "4: cross(0, HIGH)", Checks.NO_SUCH, () -> x.cross(0, HIGH, true));
        Checks.throwing(x, "4: cross(0, LOW)", Checks.NO_SUCH, () -> x.cross(0, LOW, true));
        Checks.due("4: cross(0, 0, true)", x.cross(0, 0, true), 1);
        Checks.due("4: cross(0, 1, false)", x.cross(0, 1, false), 0);
        Checks.due("4: cross(0, 0, true)", x.cross(0, 0, true), 2);
        Checks.dueText(x, 0, "3:a+b-a+");
        Checks.due("4: undo()", x.undo(), 3);
        Checks.dueText(x, 0, "3:a+b-");
        StrandLoaves full = Checks.with(FIRST_ABOVE_24, FIRST_HIDES_15);
        Checks.throwing(full, "4: cross() of a 25th", Checks.STATE, () -> full.cross(0, 0, true));
        Checks.throwing(full, "4: cross() of a 25th at no place", Checks.NO_SUCH, () -> full.cross(0, 2, true));
        Checks.throwing(full, "4: cross() with too little dough", Checks.STATE, () -> full.cross(1, 0, false));
    }

    private static void takingBack() {
        StrandLoaves x = Checks.with("3:a+b-", FIRST_HIDES_15);
        Checks.throwing(x, "5: back(2)", Checks.NO_SUCH, () -> x.back(2));
        Checks.throwing(x, "5: back(-1)", Checks.NO_SUCH, () -> x.back(-1));
        Checks.due("5: back(0)", x.back(0), 1);
        Checks.dueText(x, 0, "3:a+");
        Checks.due("5: back(0)", x.back(0), 0);
        Checks.throwing(x, "5: back(0) of none", Checks.STATE, () -> x.back(0));
        Checks.due("5: back(1)", x.back(1), 14);
        Checks.due("5: cross(1, 0, false)", x.cross(1, 0, false), 0);
        Checks.due("5: undo()", x.undo(), 5);
        Checks.due("5: undo()", x.undo(), 4);
        Checks.due("5: undo()", x.undo(), 3);
        Checks.dueText(x, 0, "3:a+");
    }

    private static void changing() {
        StrandLoaves x = Checks.with("2:", "4:a+c-b+c+");
        Checks.throwing(x, "6: change(2, 9)", Checks.NO_SUCH, () -> x.change(2, 9));
        Checks.throwing(x, "6: change(-1, 0)", Checks.NO_SUCH, () -> x.change(-1, 0));
        Checks.throwing(x, "6: change(1, 4)", Checks.ARGUMENT, () -> x.change(1, 4));
        Checks.throwing(x, "6: change(1, -1)", Checks.ARGUMENT, () -> x.change(1, -1));
        Checks.due("6: change(1, 0)", x.change(1, 0), 4);
        Checks.dueText(x, 1, "4:a-c+b-c-");
        Checks.due("6: change(1, 1)", x.change(1, 1), 4);
        Checks.dueText(x, 1, "4:c-a+b-a-");
        Checks.due("6: change(1, 2)", x.change(1, 2), 4);
        Checks.dueText(x, 1, "4:a+b+a-c+");
        Checks.due("6: change(1, 3)", x.change(1, 3), 4);
        Checks.dueText(x, 1, "4:a+b+a-c+");
        Checks.due("6: count(5)", x.count(5), 4);
        Checks.due("6: change(0, 0) of an empty word", x.change(0, 0), 0);
        Checks.due("6: count(5)", x.count(5), 5);
        Checks.due("6: undo()", x.undo(), 5);
        Checks.due("6: count(5) is undone", x.count(5), 4);
        Checks.due("6: undo()", x.undo(), 4);
        Checks.due("6: undo()", x.undo(), 3);
        Checks.dueText(x, 1, "4:c-a+b-a-");
        Checks.due("6: change(1, 3)", x.change(1, 3), 4);
        Checks.dueText(x, 1, "4:a+c-b-a-");
        StrandLoaves y = Checks.with("4:a+c-b+b-c+a-");
        Checks.due("6: change(0, 3)", y.change(0, 3), 0);
    }

    private static void changingWithoutDough() {
        StrandLoaves x = Checks.with(FIRST_ABOVE_24, "3:" + "a+b+b-a-".repeat(4),
                "3:" + "a+b+b-a-".repeat(3) + "a+b+b-");
        for (int loaf = 0; loaf <= 1; loaf++) {
            int which = loaf;
            Checks.throwing(x, "6: change(" + loaf + ", 0) without dough", Checks.STATE, () -> x.change(which, 0));
            Checks.throwing(x, "6: change(" + loaf + ", 1) without dough", Checks.STATE, () -> x.change(which, 1));
        }
        Checks.due("6: change(0, 2)", x.change(0, 2), 24);
        Checks.due("6: change(2, 0) with just enough dough", x.change(2, 0), 15);
        Checks.due("6: no dough is left", x.strand(2, 0, 3), 0);
        Checks.due("6: change(0, 3)", x.change(0, 3), 0);
    }

    private static void joining() {
        StrandLoaves x = Checks.with("3:a+b-", "3:b+", "4:", "3:" + "a+b-".repeat(11));
        Checks.throwing(x, "7: join(4, 0)", Checks.NO_SUCH, () -> x.join(4, 0));
        Checks.throwing(x, "7: join(0, 4)", Checks.NO_SUCH, () -> x.join(0, 4));
        Checks.throwing(x, "7: join(0, -1)", Checks.NO_SUCH, () -> x.join(0, -1));
        Checks.throwing(x, "7: join(-1, 0)", Checks.NO_SUCH, () -> x.join(-1, 0));
        Checks.throwing(x, "7: join(0, 2) of other strands", Checks.STATE, () -> x.join(0, 2));
        Checks.throwing(x, "7: join(3, 3) of too many", Checks.STATE, () -> x.join(3, 3));
        Checks.due("7: join(0, 1)", x.join(0, 1), 3);
        Checks.dueText(x, 0, "3:a+b-b+");
        Checks.dueText(x, 1, "3:b+");
        Checks.throwing(x, "7: join(3, 0) to 25", Checks.STATE, () -> x.join(3, 0));
        Checks.due("7: join(0, 0)", x.join(0, 0), 6);
        Checks.dueText(x, 0, "3:a+b-b+a+b-b+");
        Checks.due("7: undo()", x.undo(), 5);
        Checks.due("7: undo()", x.undo(), 4);
        Checks.dueText(x, 0, "3:a+b-");
        Checks.due("7: join(3, 0) to 24", x.join(3, 0), 24);
        StrandLoaves y = Checks.with(FIRST_HIDES_15, "2:a+", "2:a-");
        Checks.due("7: join(0, 1)", y.strand(0, 0, 0), 1);
        Checks.throwing(y, "7: join(0, 1) without dough", Checks.STATE, () -> y.join(0, 1));
        Checks.due("7: join(2, 2)", y.join(2, 2), 2);
    }

    private static void appending() {
        StrandLoaves x = new StrandLoaves();
        for (int code : new int[] {32, 127, 0, -1, LOW, HIGH}) {
            Checks.throwing(x, "8: append(" + code + ")", Checks.ARGUMENT, () -> x.append(code));
        }
        Checks.due("8: append(33)", x.append(33), 1);
        Checks.due("8: append(126)", x.append(126), 2);
        for (int length = 3; length <= 60; length++) {
            Checks.due("8: append(64)", x.append(64), length);
        }
        Checks.throwing(x, "8: append(64) to 60", Checks.STATE, () -> x.append(64));
        Checks.throwing(x, "8: append(32) to 60", Checks.ARGUMENT, () -> x.append(32));
        Checks.due("8: count(6): it is not undoable", x.count(6), 0);
    }

    private static void clearing() {
        StrandLoaves x = new StrandLoaves();
        Checks.type(x, "3:a+!");
        Checks.due("9: clearBuffer()", x.clearBuffer(), 5);
        Checks.due("9: clearBuffer()", x.clearBuffer(), 0);
        Checks.due("9: append(65)", x.append(65), 1);
        Checks.due("9: count(6): it is not undoable", x.count(6), 0);
    }

    private static void dueError(String text, boolean areWorks, int want) {
        StrandLoaves x = new StrandLoaves();
        Checks.type(x, text);
        Checks.due("10: firstError(" + areWorks + ") of " + text, x.firstError(areWorks), want);
        Checks.due("10: the buffer stays", x.clearBuffer(), text.length());
    }

    private static void errorsOfLoaves() {
        dueError("", false, 0);
        dueError("1", false, 0);
        dueError("8", false, 0);
        dueError("2", false, 1);
        dueError("7", false, 1);
        dueError("7;", false, 1);
        dueError("7:", false, 2);
        dueError("2:a", false, 3);
        dueError("2:b", false, 2);
        dueError("7:f+", false, 4);
        dueError("7:g+", false, 2);
        dueError("3:b*", false, 3);
        dueError("3:b+-", false, 4);
        dueError("3:B+", false, 2);
        dueError("3:`+", false, 2);
        dueError("9:!!", false, 0);
        dueError("3:" + "a+".repeat(24), false, 50);
        dueError("3:" + "a+".repeat(24) + "a", false, 50);
        dueError("3:" + "a+".repeat(24) + "a+;", false, 50);
    }

    private static void errorsOfWorks() {
        dueError("", true, 0);
        dueError("y", true, 0);
        dueError(";", true, 0);
        dueError("x", true, 1);
        dueError("x5f-", true, 4);
        dueError("x6", true, 1);
        dueError("x/", true, 1);
        dueError("x0g", true, 2);
        dueError("x0`", true, 2);
        dueError("x0a0", true, 3);
        dueError("x0a++", true, 4);
        dueError("m0;t1;r2;l3;z4", true, 14);
        dueError("m6", true, 1);
        dueError("l0a", true, 2);
        dueError("z0+", true, 2);
        dueError("j0/5", true, 4);
        dueError("j0;", true, 2);
        dueError("j0/6", true, 3);
        dueError("j6", true, 1);
        dueError("j0/1/", true, 4);
        dueError("m0;", true, 3);
        dueError("m0;;", true, 3);
        dueError("m0;t0;y", true, 6);
        dueError("m0;".repeat(20), true, 60);
    }

    private static void working() {
        StrandLoaves x = Checks.with("4:a+c-", "4:b+");
        for (String text : new String[] {"", "x0a", "m0;", "m", "j0/", "m0;;m0", "4:a+"}) {
            x.clearBuffer();
            Checks.type(x, text);
            Checks.throwing(x, "11: work() of " + text, Checks.ARGUMENT, x::work);
            Checks.due("11: the buffer stays", x.clearBuffer(), text.length());
        }
        Checks.due("11: work()", Checks.works(x, "x0b-;j1/0;m0;t1;r0;z0"), 6);
        Checks.dueText(x, 0, "4:b-c-");
        Checks.dueText(x, 1, "4:b+c+a-b-");
        Checks.due("11: the buffer is cleared", x.clearBuffer(), 0);
        Checks.due("11: count(5)", x.count(5), 3);
        Checks.due("11: count(6): as one call", x.count(6), 3);
        Checks.due("11: stopped(0)", x.stopped(0), -1);
        Checks.due("11: work()", Checks.works(x, "x1a+;x1a-;l1"), 3);
        Checks.dueText(x, 1, "4:b+a-c+b-");
        Checks.due("11: work() with a stop", Checks.works(x, "m0;x2a+;m0"), 1);
        Checks.dueText(x, 0, "4:b+c+");
        Checks.due("11: the buffer is cleared", x.clearBuffer(), 0);
        Checks.due("11: undo()", x.undo(), 4);
        Checks.dueText(x, 0, "4:b-c-");
        Checks.due("11: work() that does nothing", Checks.works(x, "z5"), 0);
        Checks.due("11: count(6)", x.count(6), 5);
        Checks.due("11: the longest work()", Checks.works(x, "m0;".repeat(18) + "x0a+;z0".substring(0, 4)), 19);
    }

    private static void dueStop(StrandLoaves x, String text, int part, int reason) {
        Checks.due("12: work() of " + text, Checks.works(x, text), part);
        Checks.due("12: stopped(0) of " + text, x.stopped(0), part);
        Checks.due("12: stopped(1) of " + text, x.stopped(1), reason);
    }

    private static void stops() {
        StrandLoaves x = Checks.with("3:", "4:", FIRST_ABOVE_24, FIRST_HIDES_15);
        Checks.throwing(x, "12: stopped(2)", Checks.ARGUMENT, () -> x.stopped(2));
        Checks.throwing(x, "12: stopped(-1)", Checks.ARGUMENT, () -> x.stopped(-1));
        dueStop(x, "z4", 0, 3);
        dueStop(x, "m4", 0, 3);
        dueStop(x, "x5f+", 0, 3);
        dueStop(x, "j4/0", 0, 3);
        dueStop(x, "j0/4", 0, 3);
        dueStop(x, "x0c+", 0, 4);
        dueStop(x, "x2f+", 0, 4);
        dueStop(x, "x3b-", 0, 4);
        dueStop(x, "j0/1", 0, 5);
        dueStop(x, "j2/1", 0, 5);
        dueStop(x, "z0", 0, 6);
        dueStop(x, "x2a+", 0, 1);
        dueStop(x, "x3a-", 0, 2);
        dueStop(x, "m2", 0, 2);
        dueStop(x, "t2", 0, 2);
        dueStop(x, "j2/2", 0, 1);
        dueStop(x, "x0a+;j2/0", 1, 1);
        dueStop(x, "x0a+;z0;z0;z0;z0", 3, 6);
        Checks.throwing(x, "12: work() of nothing", Checks.ARGUMENT, x::work);
        Checks.due("12: lay()", Checks.lay(x, "2:"), 4);
        Checks.due("12: stopped(0) stays", x.stopped(0), 3);
        Checks.due("12: undo()", x.undo(), 5);
        Checks.due("12: undo()", x.undo(), 4);
        Checks.due("12: stopped(0) is undone", x.stopped(0), 1);
        Checks.due("12: stopped(1) is undone", x.stopped(1), 1);
        Checks.due("12: work()", Checks.works(x, "l2"), 1);
        Checks.due("12: stopped(0) of no stop", x.stopped(0), -1);
        Checks.due("12: stopped(1) of no stop", x.stopped(1), -1);
    }

    private static void undoing() {
        StrandLoaves x = Checks.with("3:");
        for (int i = 0; i < 8; i++) {
            x.cross(0, i % 2, true);
        }
        Checks.due("13: count(6)", x.count(6), 6);
        for (int left = 5; left >= 0; left--) {
            Checks.due("13: undo()", x.undo(), left);
            Checks.due("13: crossings", x.loaf(0, 1), left + 2);
        }
        Checks.throwing(x, "13: undo() of none", Checks.STATE, x::undo);
        x.cross(0, 0, false);
        Checks.due("13: undo()", x.undo(), 0);
        Checks.dueText(x, 0, "3:a+b+");
    }

    private static void undoingKeepsBuffer() {
        StrandLoaves x = Checks.with("3:a+");
        x.keep();
        Checks.type(x, "3:b-");
        x.lay();
        Checks.type(x, "?!");
        Checks.due("13: undo()", x.undo(), 1);
        Checks.due("13: the buffer stays", x.clearBuffer(), 2);
        x.change(0, 0);
        x.keep();
        Checks.due("13: undo()", x.undo(), 1);
        Checks.due("13: the snapshot stays: restore()", x.restore(), 1);
        Checks.dueText(x, 0, "3:a-");
        Checks.due("13: changes of the snapshot", x.count(5), 1);
    }

    private static void keepingAndRestoring() {
        StrandLoaves x = new StrandLoaves();
        Checks.due("14: keep() of none", x.keep(), 0);
        Checks.due("14: count(6): it is not undoable", x.count(6), 0);
        Checks.lay(x, "3:a+b-");
        Checks.lay(x, "2:");
        Checks.works(x, "m0;z5");
        Checks.due("14: keep()", x.keep(), 2);
        Checks.type(x, "ab");
        x.change(0, 1);
        x.bake(1);
        Checks.due("15: restore()", x.restore(), 2);
        Checks.dueText(x, 0, "3:a-b+");
        Checks.dueText(x, 1, "2:");
        Checks.due("15: count(5)", x.count(5), 1);
        Checks.due("15: stopped(0)", x.stopped(0), 1);
        Checks.due("15: count(6): it is undoable", x.count(6), 6);
        Checks.due("15: the buffer stays", x.clearBuffer(), 2);
        Checks.due("15: undo()", x.undo(), 5);
        Checks.dueText(x, 0, "3:b-a+");
        Checks.due("15: count(5) is undone", x.count(5), 2);
        Checks.works(x, "m0");
        Checks.due("15: stopped(0)", x.stopped(0), -1);
        Checks.due("15: restore() again", x.restore(), 2);
        Checks.due("15: stopped(1)", x.stopped(1), 3);
        x.cross(0, 0, true);
        Checks.due("15: restore() once more", x.restore(), 2);
        Checks.dueText(x, 0, "3:a-b+");
    }

    private static void looksAtCrossings() {
        StrandLoaves x = Checks.with("4:c-b+a-");
        Checks.throwing(x, "16: crossing(1, 24, 4)", Checks.NO_SUCH, () -> x.crossing(1, 24, 4));
        Checks.throwing(x, "16: crossing(-1, 0, 0)", Checks.NO_SUCH, () -> x.crossing(-1, 0, 0));
        Checks.throwing(x, "16: crossing(0, 24, 0)", Checks.ARGUMENT, () -> x.crossing(0, 24, 0));
        Checks.throwing(x, "16: crossing(0, -1, 0)", Checks.ARGUMENT, () -> x.crossing(0, -1, 0));
        Checks.throwing(x, "16: crossing(0, 0, 4)", Checks.ARGUMENT, () -> x.crossing(0, 0, 4));
        Checks.throwing(x, "16: crossing(0, 23, -1)", Checks.ARGUMENT, () -> x.crossing(0, 23, -1));
        int[][] want = {{2, 0, 2, 3}, {1, 1, 3, 1}, {0, 0, 0, 3}, {-1, -1, -1, -1}};
        for (int crossing = 0; crossing < want.length; crossing++) {
            for (int what = 0; what <= 3; what++) {
                Checks.due("16: crossing(0, " + crossing + ", " + what + ")", x.crossing(0, crossing, what),
                        want[crossing][what]);
            }
        }
        Checks.due("16: crossing(0, 23, 0)", x.crossing(0, 23, 0), -1);
    }

    private static void looksAtStrands() {
        StrandLoaves x = Checks.with("4:c-b+a-");
        Checks.throwing(x, "17: strand(1, 7, 5)", Checks.NO_SUCH, () -> x.strand(1, 7, 5));
        Checks.throwing(x, "17: strand(-1, 0, 0)", Checks.NO_SUCH, () -> x.strand(-1, 0, 0));
        Checks.throwing(x, "17: strand(0, 7, 0)", Checks.ARGUMENT, () -> x.strand(0, 7, 0));
        Checks.throwing(x, "17: strand(0, -1, 0)", Checks.ARGUMENT, () -> x.strand(0, -1, 0));
        Checks.throwing(x, "17: strand(0, 6, 5)", Checks.ARGUMENT, () -> x.strand(0, 6, 5));
        Checks.throwing(x, "17: strand(0, 0, -1)", Checks.ARGUMENT, () -> x.strand(0, 0, -1));
        int[][] want = {{1, 1, 0, 28, 3}, {2, 0, 1, 29, 0}, {3, 1, 0, 28, 1}, {0, 1, 2, 26, 2}, {-1, -1, -1, -1, -1}};
        for (int strand = 0; strand < want.length; strand++) {
            for (int what = 0; what <= 4; what++) {
                Checks.due("17: strand(0, " + strand + ", " + what + ")", x.strand(0, strand, what),
                        want[strand][what]);
            }
        }
        Checks.due("17: strand(0, 6, 4)", x.strand(0, 6, 4), -1);
    }

    private static void numbersOfLoaves() {
        StrandLoaves x = Checks.with("5:a+c+d+d-a+a-a-", "7:", "3:b-", "3:b+b-b-", "2:a-a-a-", "3:a-b-b-");
        Checks.throwing(x, "18: loaf(6, 11)", Checks.NO_SUCH, () -> x.loaf(6, 11));
        Checks.throwing(x, "18: loaf(-1, 0)", Checks.NO_SUCH, () -> x.loaf(-1, 0));
        Checks.throwing(x, "18: loaf(0, 11)", Checks.ARGUMENT, () -> x.loaf(0, 11));
        Checks.throwing(x, "18: loaf(0, -1)", Checks.ARGUMENT, () -> x.loaf(0, -1));
        int[][] want = {
            {5, 7, 101, 4, 4, 3, 3, 1, 0, 0, 0},
            {7, 0, 100, 7, 7, 0, 0, 0, 1, 0, 1},
            {3, 1, 99, 2, 2, 1, 1, 1, 0, 1, 2},
            {3, 3, 99, 2, 2, 1, 1, 1, 0, 2, 2},
            {2, 3, 97, 1, 1, 3, 3, 3, 0, 0, 4},
            {3, 3, 97, 2, 2, 3, 3, 3, 0, 0, 5},
        };
        for (int loaf = 0; loaf < want.length; loaf++) {
            for (int what = 0; what <= 10; what++) {
                Checks.due("18: loaf(" + loaf + ", " + what + ")", x.loaf(loaf, what), want[loaf][what]);
            }
        }
        StrandLoaves y = Checks.with("5:a+c+d+", "7:a+b+c+d+e+f+");
        Checks.due("18: rings", y.loaf(0, 3), 2);
        Checks.due("18: rings by joining", y.loaf(0, 4), 2);
        Checks.due("18: one ring", y.loaf(1, 3), 1);
        Checks.due("18: one ring by joining", y.loaf(1, 4), 1);
    }

    private static void dueShort(String text, int want) {
        // Each is asked of an object that has told the other one nothing yet.
        StrandLoaves once = Checks.with(text);
        Checks.due("18: loaf(0, 5) of " + text, once.loaf(0, 5), want);
        StrandLoaves again = Checks.with(text);
        Checks.due("18: loaf(0, 6) of " + text, again.loaf(0, 6), want);
        Checks.dueText(again, 0, text);
    }

    private static void shortWords() {
        dueShort("2:", 0);
        dueShort("4:a+b-c+c-b+a-", 0);
        dueShort("4:a+c-a-c+", 4);
        dueShort("2:a+a-a+", 1);
        dueShort("2:a+a+", 2);
        dueShort("4:b+b-b-b+a+a-c-", 1);
        dueShort("3:" + "a+b+b-a-".repeat(6), 0);
        dueShort("7:" + "f+a-".repeat(12), 24);
        Checks.due("18: loaf(0, 7)", Checks.with("4:a+c-a-c+").loaf(0, 7), 0);
    }

    private static void dueLoose(String text, int... want) {
        StrandLoaves x = Checks.with(text);
        Checks.due("18: loaf(0, 7) of " + text, x.loaf(0, 7), want.length);
        for (int i = 0; i < 24; i++) {
            Checks.due("19: loose(0, " + i + ") of " + text, x.loose(0, i), i < want.length ? want[i] : -1);
        }
        Checks.dueText(x, 0, text);
    }

    private static void looseWords() {
        StrandLoaves x = Checks.with("3:a+");
        Checks.throwing(x, "19: loose(1, 24)", Checks.NO_SUCH, () -> x.loose(1, 24));
        Checks.throwing(x, "19: loose(-1, 0)", Checks.NO_SUCH, () -> x.loose(-1, 0));
        Checks.throwing(x, "19: loose(0, 24)", Checks.ARGUMENT, () -> x.loose(0, 24));
        Checks.throwing(x, "19: loose(0, -1)", Checks.ARGUMENT, () -> x.loose(0, -1));
        dueLoose("2:");
        dueLoose("5:d+a-", 0, 7);
        dueLoose("5:d+a+d-", 1);
        dueLoose("3:b+a+b-", 3, 1, 2);
        dueLoose("4:c+b+a+", 5, 3, 1);
        dueLoose("4:c+b-a+c-", 5, 2, 1, 4);
        dueLoose("7:f+d+b+e-c-a-", 3, 0, 7, 4, 11, 8);
        dueLoose("4:a+c+b-b+a-c-");
        dueLoose("4:c+a-c+a-", 0, 0, 5, 5);
    }

    private static void counts() {
        StrandLoaves x = Checks.with("3:a+b+b-", "3:a+", "3:a-", "4:a+", "3:");
        Checks.throwing(x, "20: count(7)", Checks.ARGUMENT, () -> x.count(7));
        Checks.throwing(x, "20: count(-1)", Checks.ARGUMENT, () -> x.count(-1));
        x.change(0, 1);
        x.change(0, 1);
        int[] want = {5, 6, 18, 18, 4, 2, 6};
        for (int what = 0; what <= 6; what++) {
            Checks.due("20: count(" + what + ")", x.count(what), want[what]);
        }
        x.bake(0);
        Checks.due("20: count(4)", x.count(4), 4);
        Checks.works(x, "l0;r1;m0;t0;x0a+;z0;j0/0");
        Checks.due("20: count(5)", x.count(5), 6);
        Checks.due("20: count(0)", x.count(0), 4);
    }

    private static void reasons() {
        StrandLoaves x = Checks.with("3:", FIRST_HIDES_15, FIRST_ABOVE_24, FULL_WITHOUT_DOUGH, "2:" + "a-a+".repeat(7));
        Checks.throwing(x, "21: whyNot(5, 0)", Checks.NO_SUCH, () -> x.whyNot(5, 0, true));
        Checks.throwing(x, "21: whyNot(-1, 0)", Checks.NO_SUCH, () -> x.whyNot(-1, 0, true));
        Checks.throwing(x, "21: whyNot(0, 2)", Checks.NO_SUCH, () -> x.whyNot(0, 2, true));
        Checks.throwing(x, "21: whyNot(2, 2)", Checks.NO_SUCH, () -> x.whyNot(2, 2, true));
        Checks.throwing(x, "21: whyNot(0, LOW)", Checks.NO_SUCH, () -> x.whyNot(0, LOW, true));
        Checks.throwing(x, "21: whyNot(0, HIGH)", Checks.NO_SUCH, () -> x.whyNot(0, HIGH, false));
        long before = x.digest();
        Checks.due("21: whyNot(0, 1, true)", x.whyNot(0, 1, true), 0);
        Checks.due("21: whyNot(1, 0, true): hidden", x.whyNot(1, 0, true), 2);
        Checks.due("21: whyNot(1, 0, false): above", x.whyNot(1, 0, false), 2);
        Checks.due("21: whyNot(2, 0, true)", x.whyNot(2, 0, true), 1);
        Checks.due("21: whyNot(3, 0, true): 1 ahead of 2", x.whyNot(3, 0, true), 1);
        Checks.due("21: whyNot(3, 0, false): 1 ahead of 2", x.whyNot(3, 0, false), 1);
        Checks.due("21: whyNot(4, 0, false): the last dough", x.whyNot(4, 0, false), 0);
        Checks.due("21: digest(): nothing is changed", x.digest(), before);
    }

    private static void changesThatWouldBe() {
        StrandLoaves x = Checks.with("4:a+c-a-b+", FIRST_ABOVE_24, "2:", "3:a+b+a-");
        Checks.throwing(x, "22: ifChanged(4, 4)", Checks.NO_SUCH, () -> x.ifChanged(4, 4));
        Checks.throwing(x, "22: ifChanged(-1, 0)", Checks.NO_SUCH, () -> x.ifChanged(-1, 0));
        Checks.throwing(x, "22: ifChanged(0, 4)", Checks.ARGUMENT, () -> x.ifChanged(0, 4));
        Checks.throwing(x, "22: ifChanged(0, -1)", Checks.ARGUMENT, () -> x.ifChanged(0, -1));
        long before = x.digest();
        for (int how = 0; how <= 3; how++) {
            Checks.due("22: ifChanged(0, " + how + ")", x.ifChanged(0, how), 2);
            Checks.due("22: ifChanged(1, " + how + "), made or not", x.ifChanged(1, how), 0);
            Checks.due("22: ifChanged(2, " + how + ")", x.ifChanged(2, how), 0);
            Checks.due("22: ifChanged(3, " + how + ")", x.ifChanged(3, how), 3);
        }
        Checks.due("22: digest(): nothing is changed", x.digest(), before);
    }

    private static void dueAlike(String one, String other, int want) {
        StrandLoaves x = Checks.with(one, other);
        Checks.due("23: alike of " + one + " and " + other, x.alike(0, 1), want);
        Checks.due("23: alike of " + one + " and itself", x.alike(0, 0), 1);
    }

    private static void likeness() {
        StrandLoaves x = Checks.with("3:a+");
        Checks.throwing(x, "23: alike(0, 1)", Checks.NO_SUCH, () -> x.alike(0, 1));
        Checks.throwing(x, "23: alike(1, 0)", Checks.NO_SUCH, () -> x.alike(1, 0));
        Checks.throwing(x, "23: alike(-1, 0)", Checks.NO_SUCH, () -> x.alike(-1, 0));
        Checks.throwing(x, "23: alike(0, HIGH)", Checks.NO_SUCH, () -> x.alike(0, HIGH));
        dueAlike("3:a+b+", "3:a+b+", 1);
        dueAlike("3:a+b+b-", "3:a+", 1);
        dueAlike("4:a+c+", "4:c+a+", 1);
        dueAlike("3:a+b+", "3:a-b-", 2);
        dueAlike("3:a+b+", "3:b+a+", 3);
        dueAlike("3:a+b+", "3:b-a-", 4);
        dueAlike("3:a+", "3:a-", 2);
        dueAlike("3:a+b-", "3:b+a-", 3);
        dueAlike("3:a+b-", "3:b-a+", 0);
        dueAlike("4:a+b+c-", "4:c+b-a-", 4);
        dueAlike("4:a+c+b+", "4:a+c+b+", 1);
        dueAlike("4:a+a-c-b+", "4:a-b+", 3);
        dueAlike("3:a+b+", "3:a+b-", 0);
        dueAlike("3:a+", "4:a+", 0);
        dueAlike("3:", "4:", 0);
        dueAlike("3:a+b+a+", "3:b+a+b+", 3);
        dueAlike("4:a+b+a+", "4:b+a+b+", 0);
    }

    private static void periods() {
        StrandLoaves x = Checks.with("7:", "2:a+", "3:a+b-", "5:a+c+d+", "7:a+b+d+e+f+", "7:a+b-c+d-e+f-");
        Checks.throwing(x, "24: period(6)", Checks.NO_SUCH, () -> x.period(6));
        Checks.throwing(x, "24: period(-1)", Checks.NO_SUCH, () -> x.period(-1));
        int[] want = {1, 2, 3, 6, 12, 7};
        for (int loaf = 0; loaf < want.length; loaf++) {
            Checks.due("24: period(" + loaf + ")", x.period(loaf), want[loaf]);
        }
        StrandLoaves y = Checks.with("5:a+b+d-", "7:a+b+c+d+e+", "7:a+b+c+d+f+", "7:a+b+d+e+", "4:a+a-c+c+",
                "6:a+b+c+d+");
        int[] more = {6, 6, 10, 3, 1, 5};
        for (int loaf = 0; loaf < more.length; loaf++) {
            Checks.due("24: period(" + loaf + ")", y.period(loaf), more[loaf]);
        }
    }

    private static void shares() {
        StrandLoaves x = new StrandLoaves();
        Checks.dueNearly("25: looseShare() of none", x.looseShare(), 1.0);
        Checks.lay(x, "3:");
        Checks.dueNearly("25: looseShare() of an empty word", x.looseShare(), 1.0);
        Checks.lay(x, "3:a+b+b-");
        Checks.dueNearly("25: looseShare()", x.looseShare(), 1.0 / 3.0);
        Checks.lay(x, "4:c+a+c-b+");
        Checks.dueNearly("25: looseShare()", x.looseShare(), 3.0 / 7.0);
        StrandLoaves y = Checks.with("2:a+a-");
        Checks.dueNearly("25: looseShare() of 0", y.looseShare(), 0.0);
    }

    private static long hash(long... values) {
        long hash = 4051;
        for (long value : values) {
            hash = 31 * hash + value;
        }
        return hash;
    }

    private static void digests() {
        StrandLoaves x = new StrandLoaves();
        long one = Double.doubleToLongBits(1.0);
        Checks.due("26: digest() of a new object", x.digest(), hash(0, 0, 0, 0, 0, 0, 0, -1, -1, one, 0));
        Checks.type(x, "2:a-a+a+");
        Checks.due("26: digest() with a buffer", x.digest(),
                hash(0, 0, 0, 0, 0, 0, 0, -1, -1, one, 8, '2', ':', 'a', '-', 'a', '+', 'a', '+'));
        x.lay();
        Checks.type(x, "z0;z5");
        x.work();
        x.cross(0, 0, true);
        Checks.type(x, "z~");
        long third = Double.doubleToLongBits(1.0 / 3.0);
        Checks.due("26: digest() with a loaf", x.digest(), hash(
                1, 3, 9, 9, 1, 0, 3,
                2, 3, 101, 1, 1, 1, 1, 1, 0, 0, 0,
                2, 1, 1, 1, 1,
                0, 0, 0, 1, 0, 1, 0, 1, 0, 1, 1, 0,
                1,
                1, 2, 1, 25, 1, 0, 1, 2, 26, 0,
                1,
                1, 3, third, 2, 'z', '~'));
        Checks.due("26: digest() again", x.digest(), x.digest());
    }
}
