import java.util.ArrayList;
import java.util.List;

/** Every word of a few crossings, loosened and made short by the class and, step by step, by the Model. */
public final class LooseningTest {
    private static int words = 0;

    private LooseningTest() {
    }

    public static void main(String[] args) {
        everyWord(2, 6, "2:");
        everyWord(3, 6, "3:");
        everyWord(4, 5, "4:");
        everyWord(5, 4, "5:");
        everyWord(7, 3, "7:");
        System.out.println("LooseningTest: " + words + " words");
        Checks.end("LooseningTest");
    }

    private static void everyWord(int strands, int more, String text) {
        dueLoosened(text);
        if (more == 0) {
            return;
        }
        for (int place = 0; place <= strands - 2; place++) {
            everyWord(strands, more - 1, text + (char) ('a' + place) + '+');
            everyWord(strands, more - 1, text + (char) ('a' + place) + '-');
        }
    }

    private static void dueLoosened(String text) {
        words++;
        StrandLoaves x = Checks.with(text);
        List<Model.Crossing> word = wordOf(text);
        int shortest = Model.shortWord(word).size();
        Checks.due("loaf(0, 5) of " + text, x.loaf(0, 5), shortest);
        Checks.due("loaf(0, 6) of " + text, x.loaf(0, 6), shortest);
        String want = textOf(text.substring(0, 2), Model.looseWord(word));
        Checks.due("loaf(0, 7) of " + text, x.loaf(0, 7), want.length() / 2 - 1);
        Checks.due("change(0, 3) of " + text, x.change(0, 3), want.length() / 2 - 1);
        Checks.dueText(x, 0, want);
    }

    private static List<Model.Crossing> wordOf(String text) {
        List<Model.Crossing> word = new ArrayList<>();
        for (int i = 2; i < text.length(); i += 2) {
            word.add(new Model.Crossing(text.charAt(i) - 'a', text.charAt(i + 1) == '+'));
        }
        return word;
    }

    private static String textOf(String strands, List<Model.Crossing> word) {
        StringBuilder text = new StringBuilder(strands);
        for (Model.Crossing crossing : word) {
            text.append((char) ('a' + crossing.place())).append(crossing.right() ? '+' : '-');
        }
        return text.toString();
    }
}
