import java.util.ArrayList;
import java.util.List;
import java.util.function.LongSupplier;

/**
 * Long runs of calls, sound and wild, made on StrandLoaves and on the Model; each answer and each exception must
 * be the same, to the very class of the exception, so that none can be the machine's own. After each call that
 * could have changed something the digest is compared too. The runs come from a fixed row of numbers.
 */
public final class ModelTest {
    private static final int RUNS = 1500;
    private static final int CALLS = 512;
    private static final int[] WILD = {Integer.MIN_VALUE, -7, -1, 24, 25, 60, 127, Integer.MAX_VALUE};

    private static long seed;
    private static int wrong = 0;
    private static final long[] seen = new long[26];
    private static final long[] thrown = new long[26];

    private static int next(int bound) {
        seed = seed * 6364136223846793005L + 1442695040888963407L;
        return (int) Math.floorMod(seed >>> 33, (long) bound);
    }

    /** A number from 0 to most, now and then one above it, one below 0, or a wild one. */
    private static int number(int most) {
        int kind = next(40);
        return kind == 0 ? WILD[next(WILD.length)] : kind == 1 ? most + 1 : kind == 2 ? -1 : next(most + 1);
    }

    private static String answer(LongSupplier call) {
        try {
            return "" + call.getAsLong();
        } catch (RuntimeException e) {
            return "throws " + e.getClass().getName();
        }
    }

    private final StrandLoaves loaves = new StrandLoaves();
    private final Model model = new Model();
    private final List<String> done = new ArrayList<>();
    private boolean isGood = true;

    private void same(int promise, String call, LongSupplier ours, LongSupplier theirs) {
        if (done.size() >= CALLS) {
            return;
        }
        String got = answer(ours);
        String want = answer(theirs);
        done.add(call + " = " + got);
        seen[promise - 1]++;
        if (want.startsWith("throws")) {
            thrown[promise - 1]++;
        }
        if (!got.equals(want) && isGood) {
            isGood = false;
            wrong++;
            System.out.println(call + " answered " + got + ", due is " + want + ", behind these calls:");
            System.out.println("  " + done.subList(Math.max(0, done.size() - 80), done.size()));
        }
    }

    private void digest() {
        same(26, "digest()", loaves::digest, model::digest);
    }

    private void append(int code) {
        same(8, "append(" + code + ")", () -> loaves.append(code), () -> model.append(code));
    }

    private void type(String text) {
        for (int i = 0; i < text.length(); i++) {
            append(text.charAt(i));
        }
    }

    private static String loafText(int mostCrossings) {
        int strands = 2 + next(next(2) == 0 ? 2 : 6);
        StringBuilder text = new StringBuilder().append(strands).append(':');
        int crossings = next(mostCrossings + 1);
        int bias = next(4);
        for (int i = 0; i < crossings; i++) {
            text.append((char) ('a' + next(strands - 1))).append(next(4) >= bias ? '+' : '-');
        }
        return text.toString();
    }

    private String worksText(int parts) {
        StringBuilder text = new StringBuilder();
        for (int i = 0; i < parts; i++) {
            char letter = "xxxxmtrljjz".charAt(next(11));
            text.append(i == 0 ? "" : ";").append(letter).append(loafDigit());
            if (letter == 'x') {
                text.append((char) ('a' + next(next(4) == 0 ? 6 : 2))).append(next(2) == 0 ? '+' : '-');
            } else if (letter == 'j') {
                text.append('/').append(loafDigit());
            }
        }
        return text.toString();
    }

    /** Mostly a loaf that is there, so that runs do not end at the first part. */
    private char loafDigit() {
        return (char) ('0' + next(next(12) == 0 ? 6 : Math.max(1, model.count(0))));
    }

    /** Some runs begin with many loaves, of few strands or of many, the others with none. */
    private void begin() {
        int first = next(8);
        for (int i = 0; i < first; i++) {
            same(9, "clearBuffer()", loaves::clearBuffer, model::clearBuffer);
            type(loafText(next(2) == 0 ? 24 : 6));
            same(2, "lay()", loaves::lay, model::lay);
        }
    }

    private static String spoilt(String text) {
        String signs = "0123456789:;/+-abcdefgxmtrljz~!";
        int at = next(text.length() + 1);
        String sign = "" + signs.charAt(next(signs.length()));
        return text.substring(0, at) + sign + text.substring(Math.min(text.length(), at + next(2)));
    }

    private void readText(boolean areWorks) {
        if (next(12) != 0) {
            same(9, "clearBuffer()", loaves::clearBuffer, model::clearBuffer);
        }
        String text = areWorks ? worksText(1 + next(9)) : loafText(next(3) == 0 ? 26 : 9);
        type(next(6) == 0 ? spoilt(text) : text);
        boolean readAs = (next(8) == 0) != areWorks;
        same(10, "firstError(" + readAs + ")", () -> loaves.firstError(readAs), () -> model.firstError(readAs));
        if ((next(10) == 0) != areWorks) {
            same(11, "work()", loaves::work, model::work);
        } else {
            same(2, "lay()", loaves::lay, model::lay);
        }
    }

    private void step() {
        int a = number(model.count(0) == 0 ? 5 : model.count(0) - 1);
        int b = number(next(4) == 0 ? 6 : 2);
        boolean right = next(3) != 0;
        switch (next(36)) {
            case 0, 1 -> readText(false);
            case 2, 3, 4, 22, 23 -> readText(true);
            case 5 -> same(3, "bake(" + a + ")", () -> loaves.bake(a), () -> model.bake(a));
            case 6, 7, 8, 9, 10 -> same(4, "cross(" + a + ", " + b + ", " + right + ")",
                    () -> loaves.cross(a, b, right), () -> model.cross(a, b, right));
            case 11 -> same(5, "back(" + a + ")", () -> loaves.back(a), () -> model.back(a));
            case 12, 13, 14 -> {
                int how = number(3);
                same(6, "change(" + a + ", " + how + ")", () -> loaves.change(a, how), () -> model.change(a, how));
            }
            case 15, 16 -> {
                int other = number(Math.max(0, model.count(0) - 1));
                same(7, "join(" + a + ", " + other + ")", () -> loaves.join(a, other), () -> model.join(a, other));
            }
            case 17 -> append(number(126));
            case 18, 19 -> same(13, "undo()", loaves::undo, model::undo);
            case 20 -> same(14, "keep()", loaves::keep, model::keep);
            case 21 -> same(15, "restore()", loaves::restore, model::restore);
            default -> look(a);
        }
        digest();
    }

    private void look(int a) {
        int b = number(6);
        int what = number(4);
        boolean right = next(2) == 0;
        switch (next(10)) {
            case 0 -> same(12, "stopped(" + b + ")", () -> loaves.stopped(b), () -> model.stopped(b));
            case 1 -> {
                int c = number(23);
                same(16, "crossing(" + a + ", " + c + ", " + what + ")",
                        () -> loaves.crossing(a, c, what), () -> model.crossing(a, c, what));
            }
            case 2 -> same(17, "strand(" + a + ", " + b + ", " + what + ")",
                    () -> loaves.strand(a, b, what), () -> model.strand(a, b, what));
            case 3 -> {
                int number = number(10);
                same(18, "loaf(" + a + ", " + number + ")",
                        () -> loaves.loaf(a, number), () -> model.loaf(a, number));
            }
            case 4 -> {
                int c = number(23);
                same(19, "loose(" + a + ", " + c + ")", () -> loaves.loose(a, c), () -> model.loose(a, c));
            }
            case 5 -> same(20, "count(" + b + ")", () -> loaves.count(b), () -> model.count(b));
            case 6 -> same(21, "whyNot(" + a + ", " + b + ", " + right + ")",
                    () -> loaves.whyNot(a, b, right), () -> model.whyNot(a, b, right));
            case 7 -> same(22, "ifChanged(" + a + ", " + what + ")",
                    () -> loaves.ifChanged(a, what), () -> model.ifChanged(a, what));
            case 8 -> same(23, "alike(" + a + ", " + b + ")", () -> loaves.alike(a, b), () -> model.alike(a, b));
            default -> {
                same(24, "period(" + a + ")", () -> loaves.period(a), () -> model.period(a));
                same(25, "looseShare()", () -> Double.doubleToRawLongBits(loaves.looseShare()),
                        () -> Double.doubleToRawLongBits(model.looseShare()));
            }
        }
    }

    public static void main(String[] args) {
        for (int run = 0; run < RUNS; run++) {
            seed = run;
            ModelTest test = new ModelTest();
            test.begin();
            while (test.done.size() < CALLS) {
                test.step();
            }
        }
        for (int promise = 2; promise <= 26; promise++) {
            if (seen[promise - 1] == 0) {
                wrong++;
                System.out.println("promise " + promise + " was never called");
            }
        }
        System.out.println("answers compared, and of them thrown:");
        for (int promise = 2; promise <= 26; promise++) {
            System.out.print(" " + promise + ": " + seen[promise - 1] + "/" + thrown[promise - 1]);
        }
        System.out.println();
        System.out.println(wrong == 0 ? "all answers are as the model's" : wrong + " runs went wrong");
        if (wrong != 0) {
            System.exit(1);
        }
    }
}
