import java.util.ArrayList;
import java.util.HashSet;
import java.util.List;
import java.util.Set;

/**
 * DOC.md once more, as literally and as slowly as it can be said: words as lists, texts by regular expressions
 * and completions, loosening step by step. ModelTest holds StrandLoaves against it.
 */
final class Model {
    record Crossing(int place, boolean right) {
        Crossing mirrored() {
            return new Crossing(place, !right);
        }

        boolean undoes(Crossing next) {
            return place == next.place && right != next.right;
        }
    }

    record Loaf(int strands, List<Crossing> word) {
    }

    record State(List<Loaf> loaves, int changes, int stopPart, int stopReason) {
    }

    /** A stop of a call; its reason is that of stopped(1), where there is one. */
    static final class Refused extends Exception {
        private static final long serialVersionUID = 1L;
        final int reason;

        Refused(int reason) {
            this.reason = reason;
        }
    }

    private State state = new State(List.of(), 0, -1, -1);
    private final List<State> saved = new ArrayList<>();
    private State snapshot = null;
    private String buffer = "";

    // ---- words

    static final class Walk {
        final List<Integer> hidden = new ArrayList<>();
        final List<Integer> above = new ArrayList<>();
        final List<Integer> places = new ArrayList<>();

        Walk(Loaf loaf) {
            for (int i = 0; i < loaf.strands(); i++) {
                places.add(i);
            }
            for (Crossing c : loaf.word()) {
                int left = places.get(c.place());
                int right = places.get(c.place() + 1);
                above.add(c.right() ? left : right);
                hidden.add(c.right() ? right : left);
                places.set(c.place(), right);
                places.set(c.place() + 1, left);
            }
        }

        int timesHidden(int strand) {
            return (int) hidden.stream().filter(s -> s == strand).count();
        }

        int timesAbove(int strand) {
            return (int) above.stream().filter(s -> s == strand).count();
        }

        int used(int strand) {
            return timesAbove(strand) + 2 * timesHidden(strand);
        }

        int end(int strand) {
            return places.indexOf(strand);
        }
    }

    static int reasonAgainst(Loaf loaf) {
        if (loaf.word().size() > 24) {
            return 1;
        }
        Walk walk = new Walk(loaf);
        for (int s = 0; s < loaf.strands(); s++) {
            if (walk.used(s) > 30) {
                return 2;
            }
        }
        return 0;
    }

    static List<Crossing> shortWord(List<Crossing> word) {
        List<Crossing> left = new ArrayList<>(word);
        while (takeFirstPairAway(left)) {
            continue;
        }
        return left;
    }

    private static boolean takeFirstPairAway(List<Crossing> word) {
        for (int i = 0; i + 1 < word.size(); i++) {
            if (word.get(i).undoes(word.get(i + 1))) {
                word.remove(i);
                word.remove(i);
                return true;
            }
        }
        return false;
    }

    private static boolean changeFirstOrder(List<Crossing> word) {
        for (int i = 0; i + 1 < word.size(); i++) {
            if (word.get(i).place() - word.get(i + 1).place() >= 2) {
                word.add(i, word.remove(i + 1));
                return true;
            }
        }
        return false;
    }

    static List<Crossing> looseWord(List<Crossing> word) {
        List<Crossing> left = new ArrayList<>(word);
        while (takeFirstPairAway(left) || changeFirstOrder(left)) {
            continue;
        }
        return left;
    }

    static Loaf changed(Loaf loaf, int how) {
        List<Crossing> word = new ArrayList<>();
        for (Crossing c : loaf.word()) {
            switch (how) {
                case 0 -> word.add(c.mirrored());
                case 1 -> word.add(new Crossing(loaf.strands() - 2 - c.place(), c.right()));
                case 2 -> word.add(0, c.mirrored());
                default -> word.add(c);
            }
        }
        return new Loaf(loaf.strands(), how == 3 ? looseWord(word) : word);
    }

    static boolean areAlike(Loaf one, Loaf other) {
        return one.strands() == other.strands() && looseWord(one.word()).equals(looseWord(other.word()));
    }

    static int rings(Loaf loaf) {
        Walk walk = new Walk(loaf);
        Set<Set<Integer>> rings = new HashSet<>();
        for (int s = 0; s < loaf.strands(); s++) {
            Set<Integer> ring = new HashSet<>();
            for (int place = s; ring.add(place); place = walk.end(place)) {
                continue;
            }
            rings.add(ring);
        }
        return rings.size();
    }

    static boolean isHome(Loaf loaf) {
        Walk walk = new Walk(loaf);
        for (int s = 0; s < loaf.strands(); s++) {
            if (walk.end(s) != s) {
                return false;
            }
        }
        return true;
    }

    // ---- the state

    private void save() {
        saved.add(state);
        if (saved.size() > 6) {
            saved.remove(0);
        }
    }

    private void setLoaves(List<Loaf> loaves, int moreChanges) {
        state = new State(List.copyOf(loaves), state.changes() + moreChanges, state.stopPart(), state.stopReason());
    }

    private void put(int loaf, Loaf one, int moreChanges) {
        List<Loaf> loaves = new ArrayList<>(state.loaves());
        loaves.set(loaf, one);
        setLoaves(loaves, moreChanges);
    }

    private boolean has(int loaf) {
        return loaf >= 0 && loaf < state.loaves().size();
    }

    private Loaf at(int loaf) {
        return state.loaves().get(loaf);
    }

    private void needLoaf(int loaf) {
        if (!has(loaf)) {
            throw new IndexOutOfBoundsException();
        }
    }

    private static void needUpTo(int number, int most) {
        if (number < 0 || number > most) {
            throw new IllegalArgumentException();
        }
    }

    // ---- what can be done to a loaf; the loaf as it would be, or the reason against it

    private Loaf crossed(int loaf, int place, boolean right) throws Refused {
        if (!has(loaf)) {
            throw new Refused(3);
        }
        if (place < 0 || place > at(loaf).strands() - 2) {
            throw new Refused(4);
        }
        List<Crossing> word = new ArrayList<>(at(loaf).word());
        word.add(new Crossing(place, right));
        return allowed(new Loaf(at(loaf).strands(), word));
    }

    private Loaf takenBack(int loaf) throws Refused {
        if (!has(loaf)) {
            throw new Refused(3);
        }
        List<Crossing> word = at(loaf).word();
        if (word.isEmpty()) {
            throw new Refused(6);
        }
        return new Loaf(at(loaf).strands(), List.copyOf(word.subList(0, word.size() - 1)));
    }

    private Loaf changedTo(int loaf, int how) throws Refused {
        if (!has(loaf)) {
            throw new Refused(3);
        }
        return allowed(changed(at(loaf), how));
    }

    private Loaf joined(int loaf, int other) throws Refused {
        if (!has(loaf) || !has(other)) {
            throw new Refused(3);
        }
        if (at(loaf).strands() != at(other).strands()) {
            throw new Refused(5);
        }
        List<Crossing> word = new ArrayList<>(at(loaf).word());
        word.addAll(at(other).word());
        return allowed(new Loaf(at(loaf).strands(), word));
    }

    private static Loaf allowed(Loaf loaf) throws Refused {
        if (reasonAgainst(loaf) != 0) {
            throw new Refused(reasonAgainst(loaf));
        }
        return loaf;
    }

    private static RuntimeException thrownFor(Refused refused) {
        boolean isNoSuch = refused.reason == 3 || refused.reason == 4;
        return isNoSuch ? new IndexOutOfBoundsException() : new IllegalStateException();
    }

    // ---- texts

    private static final String WORKS = "(x[0-5][a-f][+-]|[mtrlz][0-5]|j[0-5]/[0-5])"
            + "(;(x[0-5][a-f][+-]|[mtrlz][0-5]|j[0-5]/[0-5]))*";

    private static boolean isLoafText(String text) {
        for (int strands = 2; strands <= 7; strands++) {
            char last = (char) ('a' + strands - 2);
            if (text.matches(strands + ":([a-" + last + "][+-]){0,24}")) {
                return true;
            }
        }
        return false;
    }

    private static boolean isBeginning(String text, boolean areWorks) {
        String[] rests = areWorks
                ? new String[] {"", "m0", "0", "0a+", "a+", "+", "0/0", "/0"}
                : new String[] {"", "2:", ":", "+"};
        for (String rest : rests) {
            if (areWorks ? (text + rest).matches(WORKS) : isLoafText(text + rest)) {
                return true;
            }
        }
        return false;
    }

    private static List<Crossing> wordOf(String text) {
        List<Crossing> word = new ArrayList<>();
        for (int i = 2; i < text.length(); i += 2) {
            word.add(new Crossing(text.charAt(i) - 'a', text.charAt(i + 1) == '+'));
        }
        return word;
    }

    // ---- the face

    int lay() {
        if (!isLoafText(buffer)) {
            throw new IllegalArgumentException();
        }
        Loaf loaf = new Loaf(buffer.charAt(0) - '0', wordOf(buffer));
        if (state.loaves().size() == 6 || reasonAgainst(loaf) != 0) {
            throw new IllegalStateException();
        }
        save();
        List<Loaf> loaves = new ArrayList<>(state.loaves());
        loaves.add(loaf);
        setLoaves(loaves, 0);
        buffer = "";
        return loaves.size() - 1;
    }

    int bake(int loaf) {
        needLoaf(loaf);
        save();
        List<Loaf> loaves = new ArrayList<>(state.loaves());
        int had = loaves.remove(loaf).word().size();
        setLoaves(loaves, 0);
        return had;
    }

    int cross(int loaf, int place, boolean isRight) {
        try {
            Loaf then = crossed(loaf, place, isRight);
            save();
            put(loaf, then, 0);
            return new Walk(then).hidden.get(then.word().size() - 1);
        } catch (Refused refused) {
            throw thrownFor(refused);
        }
    }

    int back(int loaf) {
        try {
            Loaf then = takenBack(loaf);
            save();
            put(loaf, then, 0);
            return then.word().size();
        } catch (Refused refused) {
            throw thrownFor(refused);
        }
    }

    int change(int loaf, int how) {
        needLoaf(loaf);
        needUpTo(how, 3);
        try {
            Loaf then = changedTo(loaf, how);
            save();
            put(loaf, then, 1);
            return then.word().size();
        } catch (Refused refused) {
            throw thrownFor(refused);
        }
    }

    int join(int loaf, int other) {
        try {
            Loaf then = joined(loaf, other);
            save();
            put(loaf, then, 0);
            return then.word().size();
        } catch (Refused refused) {
            throw thrownFor(refused);
        }
    }

    int append(int code) {
        if (code < 33 || code > 126) {
            throw new IllegalArgumentException();
        }
        if (buffer.length() == 60) {
            throw new IllegalStateException();
        }
        buffer += (char) code;
        return buffer.length();
    }

    int clearBuffer() {
        int length = buffer.length();
        buffer = "";
        return length;
    }

    int firstError(boolean areWorks) {
        for (int i = 0; i < buffer.length(); i++) {
            if (!isBeginning(buffer.substring(0, i + 1), areWorks)) {
                return i;
            }
        }
        return buffer.length();
    }

    int work() {
        if (!buffer.matches(WORKS)) {
            throw new IllegalArgumentException();
        }
        save();
        int done = 0;
        int reason = -1;
        for (String part : buffer.split(";")) {
            try {
                doPart(part);
                done++;
            } catch (Refused refused) {
                reason = refused.reason;
                break;
            }
        }
        state = new State(state.loaves(), state.changes(), reason == -1 ? -1 : done, reason);
        buffer = "";
        return done;
    }

    private void doPart(String part) throws Refused {
        int loaf = part.charAt(1) - '0';
        switch (part.charAt(0)) {
            case 'x' -> put(loaf, crossed(loaf, part.charAt(2) - 'a', part.charAt(3) == '+'), 0);
            case 'z' -> put(loaf, takenBack(loaf), 0);
            case 'j' -> put(loaf, joined(loaf, part.charAt(3) - '0'), 0);
            default -> put(loaf, changedTo(loaf, "mtrl".indexOf(part.charAt(0))), 1);
        }
    }

    int stopped(int what) {
        needUpTo(what, 1);
        return what == 0 ? state.stopPart() : state.stopReason();
    }

    int undo() {
        if (saved.isEmpty()) {
            throw new IllegalStateException();
        }
        state = saved.remove(saved.size() - 1);
        return saved.size();
    }

    int keep() {
        snapshot = state;
        return state.loaves().size();
    }

    int restore() {
        if (snapshot == null) {
            throw new IllegalStateException();
        }
        save();
        state = snapshot;
        return state.loaves().size();
    }

    int crossing(int loaf, int crossing, int what) {
        needLoaf(loaf);
        needUpTo(crossing, 23);
        needUpTo(what, 3);
        List<Crossing> word = at(loaf).word();
        if (crossing >= word.size()) {
            return -1;
        }
        Walk walk = new Walk(at(loaf));
        return switch (what) {
            case 0 -> word.get(crossing).place();
            case 1 -> word.get(crossing).right() ? 1 : 0;
            case 2 -> walk.hidden.get(crossing);
            default -> walk.above.get(crossing);
        };
    }

    int strand(int loaf, int strand, int what) {
        needLoaf(loaf);
        needUpTo(strand, 6);
        needUpTo(what, 4);
        if (strand >= at(loaf).strands()) {
            return -1;
        }
        Walk walk = new Walk(at(loaf));
        return switch (what) {
            case 0 -> walk.end(strand);
            case 1 -> walk.timesHidden(strand);
            case 2 -> walk.timesAbove(strand);
            case 3 -> 30 - walk.used(strand);
            default -> walk.places.get(strand);
        };
    }

    int loaf(int loaf, int what) {
        needLoaf(loaf);
        needUpTo(what, 10);
        Loaf one = at(loaf);
        List<Crossing> word = one.word();
        int rights = (int) word.stream().filter(Crossing::right).count();
        return switch (what) {
            case 0 -> one.strands();
            case 1 -> word.size();
            case 2 -> 100 + rights - (word.size() - rights);
            case 3, 4 -> rings(one);
            case 5, 6 -> shortWord(word).size();
            case 7 -> looseWord(word).size();
            case 8 -> isHome(one) ? 1 : 0;
            case 9 -> mostHidden(one);
            default -> firstAlike(loaf);
        };
    }

    private static int mostHidden(Loaf loaf) {
        Walk walk = new Walk(loaf);
        for (int times = 24; times > 0; times--) {
            for (int s = 0; s < loaf.strands(); s++) {
                if (walk.timesHidden(s) == times) {
                    return s;
                }
            }
        }
        return 0;
    }

    private int firstAlike(int loaf) {
        int first = 0;
        while (!areAlike(at(first), at(loaf))) {
            first++;
        }
        return first;
    }

    int loose(int loaf, int crossing) {
        needLoaf(loaf);
        needUpTo(crossing, 23);
        List<Crossing> word = looseWord(at(loaf).word());
        if (crossing >= word.size()) {
            return -1;
        }
        return 2 * word.get(crossing).place() + (word.get(crossing).right() ? 1 : 0);
    }

    int count(int what) {
        needUpTo(what, 6);
        int sum = 0;
        for (int i = 0; i < state.loaves().size(); i++) {
            sum += switch (what) {
                case 0 -> 1;
                case 1 -> at(i).word().size();
                case 2, 3 -> 3 * at(i).word().size();
                case 4 -> firstAlike(i) == i ? 1 : 0;
                default -> 0;
            };
        }
        return what == 5 ? state.changes() : what == 6 ? saved.size() : sum;
    }

    int whyNot(int loaf, int place, boolean isRight) {
        try {
            crossed(loaf, place, isRight);
            return 0;
        } catch (Refused refused) {
            if (refused.reason > 2) {
                throw thrownFor(refused);
            }
            return refused.reason;
        }
    }

    int ifChanged(int loaf, int how) {
        needLoaf(loaf);
        needUpTo(how, 3);
        return looseWord(changed(at(loaf), how).word()).size();
    }

    int alike(int loaf, int other) {
        needLoaf(loaf);
        needLoaf(other);
        if (areAlike(at(loaf), at(other))) {
            return 1;
        }
        for (int how = 0; how < 3; how++) {
            if (areAlike(changed(at(loaf), how), at(other))) {
                return how + 2;
            }
        }
        return 0;
    }

    int period(int loaf) {
        needLoaf(loaf);
        List<Crossing> word = new ArrayList<>(at(loaf).word());
        int times = 1;
        while (!isHome(new Loaf(at(loaf).strands(), word))) {
            word.addAll(at(loaf).word());
            times++;
        }
        return times;
    }

    double looseShare() {
        int looseOnes = 0;
        for (Loaf loaf : state.loaves()) {
            looseOnes += looseWord(loaf.word()).size();
        }
        return count(1) == 0 ? 1.0 : (double) looseOnes / count(1);
    }

    long digest() {
        List<Long> values = new ArrayList<>();
        for (int what = 0; what <= 6; what++) {
            values.add((long) count(what));
        }
        for (int i = 0; i < state.loaves().size(); i++) {
            addLoaf(values, i);
        }
        values.add((long) stopped(0));
        values.add((long) stopped(1));
        values.add(Double.doubleToLongBits(looseShare()));
        values.add((long) buffer.length());
        buffer.chars().forEach(c -> values.add((long) c));
        long hash = 4051;
        for (long value : values) {
            hash = 31 * hash + value;
        }
        return hash;
    }

    private void addLoaf(List<Long> values, int loaf) {
        for (int what = 0; what <= 10; what++) {
            values.add((long) loaf(loaf, what));
        }
        values.add((long) period(loaf));
        for (int how = 0; how <= 3; how++) {
            values.add((long) ifChanged(loaf, how));
        }
        for (int crossing = 0; crossing < at(loaf).word().size(); crossing++) {
            for (int what = 0; what <= 3; what++) {
                values.add((long) crossing(loaf, crossing, what));
            }
        }
        for (int crossing = 0; crossing < loaf(loaf, 7); crossing++) {
            values.add((long) loose(loaf, crossing));
        }
        for (int strand = 0; strand < at(loaf).strands(); strand++) {
            for (int what = 0; what <= 4; what++) {
                values.add((long) strand(loaf, strand, what));
            }
        }
        for (int other = 0; other < state.loaves().size(); other++) {
            values.add((long) alike(loaf, other));
        }
    }
}
