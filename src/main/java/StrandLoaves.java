/** Plaited loaves, told by which strand hides at each crossing. What each call does is said in DOC.md. */
public final class StrandLoaves {
    public static final int NONE = -1;

    private static final int MOST_LOAVES = 6;
    private static final int LEAST_STRANDS = 2;
    private static final int MOST_STRANDS = 7;
    private static final int MOST_CROSSINGS = 24;
    private static final int DOUGH = 30;
    private static final int DOUGH_OF_A_CROSSING = 3;
    private static final int MOST_SIGNS = 60;
    private static final int MOST_SAVED = 6;

    private static final int MIRRORED = 0;
    private static final int TURNED = 1;
    private static final int OTHER_WAY = 2;
    private static final int LOOSENED = 3;

    // The reasons of a stop; 1 and 2 are the document's reasons against a change of a word.
    private static final int CAN = 0;
    private static final int TOO_LONG = 1;
    private static final int TOO_LITTLE_DOUGH = 2;
    private static final int NO_LOAF = 3;
    private static final int NO_PLACE = 4;
    private static final int OTHER_STRANDS = 5;
    private static final int NO_CROSSING = 6;

    private final Text text;
    private final Board board;
    private final History history;
    private final Board snapshot;
    private boolean hasSnapshot;

    // What a loaf would be like: built and looked at first, so that a refused call has changed nothing.
    private final Loaf trial;
    // Rows for what is worked out in one call, used again by the next one.
    private final Word changed;
    private final Word scratch;

    public StrandLoaves() {
        text = new Text();
        board = new Board();
        history = new History();
        snapshot = new Board();
        hasSnapshot = false;
        trial = new Loaf();
        changed = new Word();
        scratch = new Word();
    }

    // ---- loaves

    public int lay() throws IllegalArgumentException, IllegalStateException {
        if (!text.isLoaf()) {
            throw new IllegalArgumentException("the buffer is not a complete loaf");
        }
        if (board.size() >= MOST_LOAVES) {
            throw new IllegalStateException("there are 6 loaves");
        }
        text.readLoaf(trial.word());
        if (trial.settle() != CAN) {
            throw new IllegalStateException("a strand would use more than its dough");
        }
        history.save(board);
        board.addLoaf(trial);
        text.clear();
        return board.size() - 1;
    }

    public int bake(int loaf) throws IndexOutOfBoundsException {
        needLoaf(loaf);
        int crossings = board.at(loaf).word().size();
        history.save(board);
        board.removeLoaf(loaf);
        return crossings;
    }

    public int cross(int loaf, int place, boolean isRight) throws IndexOutOfBoundsException, IllegalStateException {
        needPlace(loaf, place);
        needCan(tryCrossing(loaf, place, isRight));
        history.save(board);
        board.at(loaf).copyFrom(trial);
        return trial.trace().hiddenAt(trial.word().size() - 1);
    }

    public int back(int loaf) throws IndexOutOfBoundsException, IllegalStateException {
        needLoaf(loaf);
        needCan(tryTakingBack(loaf));
        history.save(board);
        board.at(loaf).copyFrom(trial);
        return trial.word().size();
    }

    public int change(int loaf, int how)
            throws IndexOutOfBoundsException, IllegalArgumentException, IllegalStateException {
        needLoaf(loaf);
        needUpTo(how, LOOSENED);
        needCan(tryChange(loaf, how));
        history.save(board);
        board.at(loaf).copyFrom(trial);
        board.addChange();
        return trial.word().size();
    }

    public int join(int loaf, int other) throws IndexOutOfBoundsException, IllegalStateException {
        needLoaf(loaf);
        needLoaf(other);
        needCan(tryJoining(loaf, other));
        history.save(board);
        board.at(loaf).copyFrom(trial);
        return trial.word().size();
    }

    // ---- texts

    public int append(int code) throws IllegalArgumentException, IllegalStateException {
        if (code < 33 || code > 126) {
            throw new IllegalArgumentException("no character of the buffer");
        }
        if (text.size() >= MOST_SIGNS) {
            throw new IllegalStateException("the buffer is full");
        }
        text.addSign(code);
        return text.size();
    }

    public int clearBuffer() {
        int length = text.size();
        text.clear();
        return length;
    }

    public int firstError(boolean areWorks) {
        return areWorks ? text.firstErrorOfWorks() : text.firstErrorOfLoaf();
    }

    public int work() throws IllegalArgumentException {
        if (!text.isWorks()) {
            throw new IllegalArgumentException("the buffer is not complete works");
        }
        history.save(board);
        int done = 0;
        int reason = CAN;
        int start = 0;
        for (int part = 0; part < text.parts() && reason == CAN; part++) {
            reason = tryPart(start);
            if (reason == CAN) {
                doTriedPart(start);
                done++;
            }
            start += text.partSize(start) + 1;
        }
        board.setStop(reason == CAN ? NONE : done, reason == CAN ? NONE : reason);
        text.clear();
        return done;
    }

    public int stopped(int what) throws IllegalArgumentException {
        needUpTo(what, 1);
        return what == 0 ? board.stopPart() : board.stopReason();
    }

    // ---- undo, the snapshot

    public int undo() throws IllegalStateException {
        if (history.size() == 0) {
            throw new IllegalStateException("there is no saved state");
        }
        history.takeBack(board);
        return history.size();
    }

    public int keep() {
        snapshot.copyFrom(board);
        hasSnapshot = true;
        return board.size();
    }

    public int restore() throws IllegalStateException {
        if (!hasSnapshot) {
            throw new IllegalStateException("there is no snapshot");
        }
        history.save(board);
        board.copyFrom(snapshot);
        return board.size();
    }

    // ---- looks; nothing is changed

    public int crossing(int loaf, int crossing, int what) throws IndexOutOfBoundsException, IllegalArgumentException {
        needLoaf(loaf);
        needUpTo(crossing, MOST_CROSSINGS - 1);
        needUpTo(what, 3);
        return board.at(loaf).numberOfCrossing(crossing, what);
    }

    public int strand(int loaf, int strand, int what) throws IndexOutOfBoundsException, IllegalArgumentException {
        needLoaf(loaf);
        needUpTo(strand, MOST_STRANDS - 1);
        needUpTo(what, 4);
        return board.at(loaf).trace().numberOfStrand(strand, what);
    }

    public int loaf(int loaf, int what) throws IndexOutOfBoundsException, IllegalArgumentException {
        needLoaf(loaf);
        needUpTo(what, 10);
        return numberOfLoaf(loaf, what);
    }

    public int loose(int loaf, int crossing) throws IndexOutOfBoundsException, IllegalArgumentException {
        needLoaf(loaf);
        needUpTo(crossing, MOST_CROSSINGS - 1);
        Word looseWord = board.at(loaf).looseWord();
        return crossing < looseWord.size() ? looseWord.codeAt(crossing) : NONE;
    }

    public int count(int what) throws IllegalArgumentException {
        needUpTo(what, 6);
        return numberOfBoard(what);
    }

    // ---- what would be; nothing is changed

    public int whyNot(int loaf, int place, boolean isRight) throws IndexOutOfBoundsException {
        needPlace(loaf, place);
        return tryCrossing(loaf, place, isRight);
    }

    public int ifChanged(int loaf, int how) throws IndexOutOfBoundsException, IllegalArgumentException {
        needLoaf(loaf);
        needUpTo(how, LOOSENED);
        return looseSizeIfChanged(loaf, how);
    }

    public int alike(int loaf, int other) throws IndexOutOfBoundsException {
        needLoaf(loaf);
        needLoaf(other);
        return likeness(loaf, other);
    }

    public int period(int loaf) throws IndexOutOfBoundsException {
        needLoaf(loaf);
        return board.at(loaf).trace().timesUntilHome();
    }

    public double looseShare() {
        int ofLooseWords = 0;
        for (int i = 0; i < board.size(); i++) {
            ofLooseWords += board.at(i).looseWord().size();
        }
        int ofWords = crossingsOfAll();
        return ofWords == 0 ? 1.0 : (double) ofLooseWords / (double) ofWords;
    }

    public long digest() {
        long hash = 4051L;
        for (int what = 0; what <= 6; what++) {
            hash = 31L * hash + numberOfBoard(what);
        }
        for (int loaf = 0; loaf < board.size(); loaf++) {
            hash = hashOfLoaf(hash, loaf);
        }
        hash = 31L * hash + board.stopPart();
        hash = 31L * hash + board.stopReason();
        hash = 31L * hash + bitsOfShare(looseShare());
        hash = 31L * hash + text.size();
        for (int i = 0; i < text.size(); i++) {
            hash = 31L * hash + text.signAt(i);
        }
        return hash;
    }

    // ---- what the calls need

    private void needLoaf(int loaf) {
        if (!board.has(loaf)) {
            throw new IndexOutOfBoundsException("no such loaf");
        }
    }

    private void needPlace(int loaf, int place) {
        needLoaf(loaf);
        if (!board.at(loaf).word().hasPlace(place)) {
            throw new IndexOutOfBoundsException("no such place");
        }
    }

    private static void needUpTo(int number, int most) {
        if (number < 0 || number > most) {
            throw new IllegalArgumentException("out of range");
        }
    }

    private static void needCan(int reason) {
        if (reason != CAN) {
            throw new IllegalStateException("it cannot be done");
        }
    }

    // ---- trials: each makes the trial what the loaf would be, and tells the first reason against it

    private int tryCrossing(int loaf, int place, boolean isRight) {
        if (!board.has(loaf)) {
            return NO_LOAF;
        }
        Word word = board.at(loaf).word();
        if (!word.hasPlace(place)) {
            return NO_PLACE;
        }
        if (word.size() >= MOST_CROSSINGS) {
            return TOO_LONG;
        }
        trial.word().copyFrom(word);
        trial.word().add(Word.codeOf(place, isRight));
        return trial.settle();
    }

    private int tryTakingBack(int loaf) {
        if (!board.has(loaf)) {
            return NO_LOAF;
        }
        Word word = board.at(loaf).word();
        if (word.size() == 0) {
            return NO_CROSSING;
        }
        trial.word().copyFrom(word);
        trial.word().removeAt(word.size() - 1);
        return trial.settle();
    }

    private int tryChange(int loaf, int how) {
        if (!board.has(loaf)) {
            return NO_LOAF;
        }
        trial.word().makeChanged(board.at(loaf).word(), how);
        return trial.settle();
    }

    private int tryJoining(int loaf, int other) {
        if (!board.has(loaf) || !board.has(other)) {
            return NO_LOAF;
        }
        Word first = board.at(loaf).word();
        Word second = board.at(other).word();
        if (first.strands() != second.strands()) {
            return OTHER_STRANDS;
        }
        if (first.size() + second.size() > MOST_CROSSINGS) {
            return TOO_LONG;
        }
        trial.word().copyFrom(first);
        trial.word().addAll(second);
        return trial.settle();
    }

    private int tryPart(int start) {
        int loaf = text.digitAt(start + 1);
        switch (text.signAt(start)) {
            case 'x':
                return tryCrossing(loaf, text.placeAt(start + 2), text.signAt(start + 3) == '+');
            case 'j':
                return tryJoining(loaf, text.digitAt(start + 3));
            case 'z':
                return tryTakingBack(loaf);
            default:
                return tryChange(loaf, text.howAt(start));
        }
    }

    private void doTriedPart(int start) {
        board.at(text.digitAt(start + 1)).copyFrom(trial);
        if (text.howAt(start) != NONE) {
            board.addChange();
        }
    }

    // ---- numbers

    private int numberOfLoaf(int number, int what) {
        Loaf one = board.at(number);
        switch (what) {
            case 0:
                return one.word().strands();
            case 1:
                return one.word().size();
            case 2:
                return 100 + one.word().rightLessLeft();
            case 3:
                return one.trace().ringsByGoingRound();
            case 4:
                return one.trace().ringsByJoining();
            case 5:
                scratch.makeShortAtOnce(one.word());
                return scratch.size();
            case 6:
                scratch.makeShortByLooking(one.word());
                return scratch.size();
            case 7:
                return one.looseWord().size();
            case 8:
                return one.trace().areAllHome() ? 1 : 0;
            case 9:
                return one.trace().mostHidden();
            default:
                return firstAlike(number);
        }
    }

    private int numberOfBoard(int what) {
        switch (what) {
            case 0:
                return board.size();
            case 1:
                return crossingsOfAll();
            case 2:
                return doughUsedByStrands();
            case 3:
                return DOUGH_OF_A_CROSSING * crossingsOfAll();
            case 4:
                return kinds();
            case 5:
                return board.changes();
            default:
                return history.size();
        }
    }

    private int crossingsOfAll() {
        int sum = 0;
        for (int i = 0; i < board.size(); i++) {
            sum += board.at(i).word().size();
        }
        return sum;
    }

    private int doughUsedByStrands() {
        int sum = 0;
        for (int i = 0; i < board.size(); i++) {
            sum += board.at(i).trace().doughUsedByAll();
        }
        return sum;
    }

    private int kinds() {
        int sum = 0;
        for (int i = 0; i < board.size(); i++) {
            if (firstAlike(i) == i) {
                sum++;
            }
        }
        return sum;
    }

    private int firstAlike(int loaf) {
        Word looseWord = board.at(loaf).looseWord();
        for (int i = 0; i < loaf; i++) {
            if (board.at(i).looseWord().isSame(looseWord)) {
                return i;
            }
        }
        return loaf;
    }

    private int looseSizeIfChanged(int loaf, int how) {
        changed.makeChanged(board.at(loaf).word(), how);
        scratch.makeLoose(changed);
        return scratch.size();
    }

    private int likeness(int loaf, int other) {
        Word second = board.at(other).looseWord();
        if (board.at(loaf).looseWord().isSame(second)) {
            return 1;
        }
        for (int how = MIRRORED; how <= OTHER_WAY; how++) {
            changed.makeChanged(board.at(loaf).word(), how);
            scratch.makeLoose(changed);
            if (scratch.isSame(second)) {
                return 2 + how;
            }
        }
        return 0;
    }

    // ---- the hash

    private long hashOfLoaf(long before, int number) {
        long hash = before;
        for (int what = 0; what <= 10; what++) {
            hash = 31L * hash + numberOfLoaf(number, what);
        }
        hash = 31L * hash + board.at(number).trace().timesUntilHome();
        for (int how = MIRRORED; how <= LOOSENED; how++) {
            hash = 31L * hash + looseSizeIfChanged(number, how);
        }
        hash = board.at(number).hashOfParts(hash);
        for (int other = 0; other < board.size(); other++) {
            hash = 31L * hash + likeness(number, other);
        }
        return hash;
    }

    /** The bits of a double from 0 to 1, worked out by halves, as the language has no call for them. */
    private static long bitsOfShare(double share) {
        if (share <= 0.0) {
            return 0L;
        }
        double scaled = share;
        long exponent = 1023L;
        for (int i = 0; i < 1023 && scaled < 1.0; i++) {
            scaled = scaled * 2.0;
            exponent--;
        }
        long fraction = (long) ((scaled - 1.0) * 4503599627370496.0);
        return (exponent << 52) + fraction;
    }

    /** A row of numbers that is 0 outside of itself: with it no index can make the machine throw. */
    private static final class Row {
        private final int[] cells;

        Row(int size) {
            cells = new int[size < 0 ? 0 : size];
        }

        int at(int index) {
            return index >= 0 && index < cells.length ? cells[index] : 0;
        }

        void put(int index, int value) {
            if (index >= 0 && index < cells.length) {
                cells[index] = value;
            }
        }

        void copyFrom(Row other) {
            int size = Math.min(cells.length, other.cells.length);
            System.arraycopy(other.cells, 0, cells, 0, size);
        }
    }

    /** The crossings of a loaf in their order; a crossing is 2 times its place, and 1 more if it is right. */
    private static final class Word {
        private final Row codes = new Row(MOST_CROSSINGS);
        private int strands = LEAST_STRANDS;
        private int size = 0;

        static int codeOf(int place, boolean isRight) {
            return 2 * place + (isRight ? 1 : 0);
        }

        static int placeOf(int code) {
            return code >> 1;
        }

        static boolean isRight(int code) {
            return (code & 1) == 1;
        }

        /** The crossing at the same place that is left for a right one, right for a left one. */
        static int flipped(int code) {
            return code ^ 1;
        }

        int strands() {
            return strands;
        }

        int size() {
            return size;
        }

        int codeAt(int index) {
            return codes.at(index);
        }

        boolean hasPlace(int place) {
            return place >= 0 && place <= strands - 2;
        }

        void begin(int strandsOfIt) {
            strands = strandsOfIt;
            size = 0;
        }

        void add(int code) {
            insertAt(size, code);
        }

        void addAll(Word other) {
            for (int i = 0; i < other.size; i++) {
                add(other.codeAt(i));
            }
        }

        void insertAt(int index, int code) {
            if (index < 0 || index > size || size >= MOST_CROSSINGS) {
                return;
            }
            for (int i = size; i > index; i--) {
                codes.put(i, codes.at(i - 1));
            }
            codes.put(index, code);
            size++;
        }

        void removeAt(int index) {
            if (index < 0 || index >= size) {
                return;
            }
            for (int i = index; i < size - 1; i++) {
                codes.put(i, codes.at(i + 1));
            }
            size--;
        }

        void copyFrom(Word other) {
            strands = other.strands;
            size = other.size;
            codes.copyFrom(other.codes);
        }

        boolean isSame(Word other) {
            if (strands != other.strands || size != other.size) {
                return false;
            }
            for (int i = 0; i < size; i++) {
                if (codeAt(i) != other.codeAt(i)) {
                    return false;
                }
            }
            return true;
        }

        int rightLessLeft() {
            int sum = 0;
            for (int i = 0; i < size; i++) {
                sum += isRight(codeAt(i)) ? 1 : -1;
            }
            return sum;
        }

        void makeChanged(Word from, int how) {
            if (how == LOOSENED) {
                makeLoose(from);
                return;
            }
            begin(from.strands);
            for (int i = 0; i < from.size; i++) {
                switch (how) {
                    case MIRRORED:
                        add(flipped(from.codeAt(i)));
                        break;
                    case TURNED:
                        add(turned(from.codeAt(i)));
                        break;
                    default:
                        add(flipped(from.codeAt(from.size - 1 - i)));
                        break;
                }
            }
        }

        private int turned(int code) {
            return codeOf(strands - 2 - placeOf(code), isRight(code));
        }

        /**
         * Puts one crossing after another behind a word that is loose, and loosens it again. Each step is one
         * of the two that the document allows; in whatever order they are done, they end at the same word
         * (README, "Loosening").
         */
        void makeLoose(Word from) {
            begin(from.strands);
            for (int i = 0; i < from.size; i++) {
                int code = from.codeAt(i);
                int index = looseIndexOf(code);
                if (index > 0 && codeAt(index - 1) == flipped(code)) {
                    removeAt(index - 1);
                } else {
                    insertAt(index, code);
                }
            }
        }

        private int looseIndexOf(int code) {
            int index = size;
            for (int i = size - 1; i >= 0 && placeOf(codes.at(i)) - placeOf(code) >= 2; i--) {
                index = i;
            }
            return index;
        }

        void makeShortAtOnce(Word from) {
            begin(from.strands);
            for (int i = 0; i < from.size; i++) {
                if (size > 0 && codeAt(size - 1) == flipped(from.codeAt(i))) {
                    removeAt(size - 1);
                } else {
                    add(from.codeAt(i));
                }
            }
        }

        void makeShortByLooking(Word from) {
            copyFrom(from);
            int pair = firstPair();
            for (int i = 0; i < MOST_CROSSINGS && pair != NONE; i++) {
                removeAt(pair + 1);
                removeAt(pair);
                pair = firstPair();
            }
        }

        private int firstPair() {
            for (int i = 0; i < size - 1; i++) {
                if (codeAt(i + 1) == flipped(codeAt(i))) {
                    return i;
                }
            }
            return NONE;
        }
    }

    /** What the strands do along a word: who hides, who goes above, and who ends where. */
    private static final class Trace {
        private final Row hidden = new Row(MOST_CROSSINGS);
        private final Row above = new Row(MOST_CROSSINGS);
        private final Row holders = new Row(MOST_STRANDS);
        private final Row ends = new Row(MOST_STRANDS);
        private final Row timesHidden = new Row(MOST_STRANDS);
        private final Row timesAbove = new Row(MOST_STRANDS);
        private final Row rings = new Row(MOST_STRANDS);
        private int strands = LEAST_STRANDS;

        void follow(Word word) {
            strands = word.strands();
            for (int i = 0; i < strands; i++) {
                holders.put(i, i);
                timesHidden.put(i, 0);
                timesAbove.put(i, 0);
            }
            for (int i = 0; i < word.size(); i++) {
                pass(i, word.codeAt(i));
            }
            for (int place = 0; place < strands; place++) {
                ends.put(holders.at(place), place);
            }
        }

        private void pass(int index, int code) {
            int place = Word.placeOf(code);
            int left = holders.at(place);
            int right = holders.at(place + 1);
            int top = Word.isRight(code) ? left : right;
            int below = Word.isRight(code) ? right : left;
            above.put(index, top);
            timesAbove.put(top, timesAbove.at(top) + 1);
            hidden.put(index, below);
            timesHidden.put(below, timesHidden.at(below) + 1);
            holders.put(place, right);
            holders.put(place + 1, left);
        }

        void copyFrom(Trace other) {
            strands = other.strands;
            hidden.copyFrom(other.hidden);
            above.copyFrom(other.above);
            holders.copyFrom(other.holders);
            ends.copyFrom(other.ends);
            timesHidden.copyFrom(other.timesHidden);
            timesAbove.copyFrom(other.timesAbove);
        }

        int hiddenAt(int crossing) {
            return hidden.at(crossing);
        }

        int aboveAt(int crossing) {
            return above.at(crossing);
        }

        private int doughUsed(int number) {
            return timesAbove.at(number) + 2 * timesHidden.at(number);
        }

        int doughUsedByAll() {
            int sum = 0;
            for (int i = 0; i < strands; i++) {
                sum += doughUsed(i);
            }
            return sum;
        }

        boolean hasDoughForAll() {
            for (int i = 0; i < strands; i++) {
                if (doughUsed(i) > DOUGH) {
                    return false;
                }
            }
            return true;
        }

        int numberOfStrand(int number, int what) {
            if (number < 0 || number >= strands) {
                return NONE;
            }
            switch (what) {
                case 0:
                    return ends.at(number);
                case 1:
                    return timesHidden.at(number);
                case 2:
                    return timesAbove.at(number);
                case 3:
                    return DOUGH - doughUsed(number);
                default:
                    return holders.at(number);
            }
        }

        int mostHidden() {
            int most = 0;
            for (int i = 1; i < strands; i++) {
                if (timesHidden.at(i) > timesHidden.at(most)) {
                    most = i;
                }
            }
            return most;
        }

        boolean areAllHome() {
            for (int i = 0; i < strands; i++) {
                if (ends.at(i) != i) {
                    return false;
                }
            }
            return true;
        }

        int ringsByGoingRound() {
            int found = 0;
            int seen = 0;
            for (int start = 0; start < strands; start++) {
                if ((seen & (1 << start)) == 0) {
                    found++;
                }
                int place = start;
                for (int steps = 0; steps < strands && (seen & (1 << place)) == 0; steps++) {
                    seen |= 1 << place;
                    place = ends.at(place);
                }
            }
            return found;
        }

        int ringsByJoining() {
            for (int i = 0; i < strands; i++) {
                rings.put(i, i);
            }
            int left = strands;
            for (int i = 0; i < strands; i++) {
                int kept = rings.at(i);
                int gone = rings.at(ends.at(i));
                if (kept != gone) {
                    renameRing(gone, kept);
                    left--;
                }
            }
            return left;
        }

        private void renameRing(int gone, int kept) {
            for (int i = 0; i < strands; i++) {
                if (rings.at(i) == gone) {
                    rings.put(i, kept);
                }
            }
        }

        /** The least common multiple of the rounds of all strands. */
        int timesUntilHome() {
            int times = 1;
            for (int start = 0; start < strands; start++) {
                times = leastCommonMultiple(times, roundOf(start));
            }
            return times;
        }

        private int roundOf(int start) {
            int place = ends.at(start);
            int steps = 1;
            for (int i = 0; i < strands && place != start; i++) {
                place = ends.at(place);
                steps++;
            }
            return steps;
        }

        private static int leastCommonMultiple(int one, int other) {
            int multiple = one;
            for (int i = 1; i < other && other > 0 && multiple % other != 0; i++) {
                multiple += one;
            }
            return multiple;
        }
    }

    /** A word with all that follows from it, worked out once when the word is settled. */
    private static final class Loaf {
        private final Word word = new Word();
        private final Word looseWord = new Word();
        private final Trace trace = new Trace();

        Word word() {
            return word;
        }

        Word looseWord() {
            return looseWord;
        }

        Trace trace() {
            return trace;
        }

        int settle() {
            looseWord.makeLoose(word);
            trace.follow(word);
            return trace.hasDoughForAll() ? CAN : TOO_LITTLE_DOUGH;
        }

        void copyFrom(Loaf other) {
            word.copyFrom(other.word);
            looseWord.copyFrom(other.looseWord);
            trace.copyFrom(other.trace);
        }

        int numberOfCrossing(int index, int what) {
            if (index < 0 || index >= word.size()) {
                return NONE;
            }
            switch (what) {
                case 0:
                    return Word.placeOf(word.codeAt(index));
                case 1:
                    return Word.isRight(word.codeAt(index)) ? 1 : 0;
                case 2:
                    return trace.hiddenAt(index);
                default:
                    return trace.aboveAt(index);
            }
        }

        long hashOfParts(long before) {
            long hash = before;
            for (int i = 0; i < word.size(); i++) {
                for (int what = 0; what <= 3; what++) {
                    hash = 31L * hash + numberOfCrossing(i, what);
                }
            }
            for (int i = 0; i < looseWord.size(); i++) {
                hash = 31L * hash + looseWord.codeAt(i);
            }
            for (int i = 0; i < word.strands(); i++) {
                for (int what = 0; what <= 4; what++) {
                    hash = 31L * hash + trace.numberOfStrand(i, what);
                }
            }
            return hash;
        }
    }

    /** The state that undo and the snapshot bring back: loaves, changes so far, and the latest stop. */
    private static final class Board {
        private final Loaf[] loaves = new Loaf[MOST_LOAVES];
        // Stands in for a loaf that is not there, so that no look at one can meet null.
        private final Loaf noLoaf = new Loaf();
        private int size = 0;
        private int changes = 0;
        private int stopPart = NONE;
        private int stopReason = NONE;

        Board() {
            for (int i = 0; i < loaves.length; i++) {
                loaves[i] = new Loaf();
            }
        }

        int size() {
            return size;
        }

        boolean has(int number) {
            return number >= 0 && number < size;
        }

        Loaf at(int number) {
            if (number < 0 || number >= loaves.length || loaves[number] == null) {
                return noLoaf;
            }
            return loaves[number];
        }

        void addLoaf(Loaf like) {
            if (size < MOST_LOAVES) {
                at(size).copyFrom(like);
                size++;
            }
        }

        void removeLoaf(int number) {
            if (!has(number)) {
                return;
            }
            for (int i = number; i < size - 1; i++) {
                at(i).copyFrom(at(i + 1));
            }
            size--;
        }

        int changes() {
            return changes;
        }

        void addChange() {
            changes++;
        }

        int stopPart() {
            return stopPart;
        }

        int stopReason() {
            return stopReason;
        }

        void setStop(int part, int reason) {
            stopPart = part;
            stopReason = reason;
        }

        void copyFrom(Board other) {
            size = other.size;
            changes = other.changes;
            stopPart = other.stopPart;
            stopReason = other.stopReason;
            for (int i = 0; i < size; i++) {
                at(i).copyFrom(other.at(i));
            }
        }
    }

    /** The saved states, the oldest first, on boards that go round: the dropped one's is used for the next. */
    private static final class History {
        private final Board[] boards = new Board[MOST_SAVED];
        // Stands in for a board that is not there, as noLoaf does on a board.
        private final Board noBoard = new Board();
        private int oldest = 0;
        private int size = 0;

        History() {
            for (int i = 0; i < boards.length; i++) {
                boards[i] = new Board();
            }
        }

        int size() {
            return size;
        }

        private Board at(int number) {
            int index = Math.floorMod(oldest + number, MOST_SAVED);
            if (index < 0 || index >= boards.length || boards[index] == null) {
                return noBoard;
            }
            return boards[index];
        }

        void save(Board board) {
            at(size).copyFrom(board);
            if (size < MOST_SAVED) {
                size++;
            } else {
                oldest = Math.floorMod(oldest + 1, MOST_SAVED);
            }
        }

        void takeBack(Board board) {
            if (size > 0) {
                size--;
                board.copyFrom(at(size));
            }
        }
    }

    /** The buffer, and how it is read. */
    private static final class Text {
        // What may come next in works; a part is begun by a letter, and what follows depends on it.
        private static final int START = 0;
        private static final int LAST_LOAF = 1;
        private static final int LOAF_OF_CROSSING = 2;
        private static final int PLACE = 3;
        private static final int SIDE = 4;
        private static final int LOAF_OF_JOINING = 5;
        private static final int SLASH = 6;
        private static final int END = 7;

        private final Row signs = new Row(MOST_SIGNS);
        private int size = 0;

        int size() {
            return size;
        }

        int signAt(int index) {
            return signs.at(index);
        }

        void addSign(int code) {
            if (size < MOST_SIGNS) {
                signs.put(size, code);
                size++;
            }
        }

        void clear() {
            size = 0;
        }

        int digitAt(int index) {
            return signAt(index) - '0';
        }

        int placeAt(int index) {
            return signAt(index) - 'a';
        }

        boolean isLoaf() {
            return size >= 2 && size % 2 == 0 && firstErrorOfLoaf() == size;
        }

        int firstErrorOfLoaf() {
            for (int i = 0; i < size; i++) {
                if (!canFollowInLoaf(i)) {
                    return i;
                }
            }
            return size;
        }

        private boolean canFollowInLoaf(int index) {
            int sign = signAt(index);
            if (index == 0) {
                return isBetween(sign, '0' + LEAST_STRANDS, '0' + MOST_STRANDS);
            }
            if (index == 1) {
                return sign == ':';
            }
            if (index >= 2 + 2 * MOST_CROSSINGS) {
                return false;
            }
            return index % 2 == 0 ? isBetween(sign, 'a', 'a' + digitAt(0) - 2) : isSide(sign);
        }

        void readLoaf(Word word) {
            word.begin(digitAt(0));
            for (int i = 2; i < size; i += 2) {
                word.add(Word.codeOf(placeAt(i), signAt(i + 1) == '+'));
            }
        }

        boolean isWorks() {
            int state = START;
            for (int i = 0; i < size; i++) {
                state = stateBehind(state, signAt(i));
            }
            return state == END;
        }

        int firstErrorOfWorks() {
            int state = START;
            for (int i = 0; i < size; i++) {
                state = stateBehind(state, signAt(i));
                if (state == NONE) {
                    return i;
                }
            }
            return size;
        }

        /** What may come behind the sign; NONE if the sign itself may not come. */
        private static int stateBehind(int state, int sign) {
            switch (state) {
                case START:
                    return stateBehindLetter(sign);
                case LAST_LOAF:
                    return isLoafDigit(sign) ? END : NONE;
                case LOAF_OF_CROSSING:
                    return isLoafDigit(sign) ? PLACE : NONE;
                case PLACE:
                    return isBetween(sign, 'a', 'f') ? SIDE : NONE;
                case SIDE:
                    return isSide(sign) ? END : NONE;
                case LOAF_OF_JOINING:
                    return isLoafDigit(sign) ? SLASH : NONE;
                case SLASH:
                    return sign == '/' ? LAST_LOAF : NONE;
                case END:
                    return sign == ';' ? START : NONE;
                default:
                    return NONE;
            }
        }

        private static int stateBehindLetter(int sign) {
            switch (sign) {
                case 'x':
                    return LOAF_OF_CROSSING;
                case 'j':
                    return LOAF_OF_JOINING;
                case 'm':
                case 't':
                case 'r':
                case 'l':
                case 'z':
                    return LAST_LOAF;
                default:
                    return NONE;
            }
        }

        /** How many parts the works have; the text must be complete works. */
        int parts() {
            int found = 1;
            for (int i = 0; i < size; i++) {
                found += signAt(i) == ';' ? 1 : 0;
            }
            return found;
        }

        int partSize(int start) {
            int letter = signAt(start);
            return letter == 'x' || letter == 'j' ? 4 : 2;
        }

        /** The change that the part asks for, as change() has it; NONE if it asks for none. */
        int howAt(int start) {
            switch (signAt(start)) {
                case 'm':
                    return MIRRORED;
                case 't':
                    return TURNED;
                case 'r':
                    return OTHER_WAY;
                case 'l':
                    return LOOSENED;
                default:
                    return NONE;
            }
        }

        private static boolean isBetween(int sign, int least, int most) {
            return sign >= least && sign <= most;
        }

        private static boolean isLoafDigit(int sign) {
            return isBetween(sign, '0', '0' + MOST_LOAVES - 1);
        }

        private static boolean isSide(int sign) {
            return sign == '+' || sign == '-';
        }
    }
}
