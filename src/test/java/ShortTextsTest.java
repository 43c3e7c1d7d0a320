/** Every text of up to five signs out of seven, read in each of the four ways and held against PlainBreaker. */
public final class ShortTextsTest {
    private static final String SIGNS = "ab1.- !";
    private static final int LONGEST = 5;

    public static void main(String[] args) {
        readAll("");
        Check.finish();
    }

    private static void readAll(String text) {
        readAsPatterns(text);
        readAsWords(text);
        readAsWord(text);
        readAsText(text);
        for (int i = 0; i < SIGNS.length() && text.length() < LONGEST && Check.faults() == 0; i++) {
            readAll(text + SIGNS.charAt(i));
        }
    }

    private static void readAsPatterns(String text) {
        WordBreaker x = new WordBreaker();
        PlainBreaker y = new PlainBreaker();
        put(x, y, text);
        Check.due("patterns() of \"" + text + "\"", x.patterns(), y.patterns());
        Check.due("count(false) behind \"" + text + "\"", x.count(false), y.count(false));
        dueBreaks(x, y, "patterns \"" + text + "\"");
    }

    private static void readAsWords(String text) {
        WordBreaker x = new WordBreaker();
        PlainBreaker y = new PlainBreaker();
        put(x, y, text);
        Check.due("words() of \"" + text + "\"", x.words(), y.words());
        Check.due("count(true) behind \"" + text + "\"", x.count(true), y.count(true));
        dueBreaks(x, y, "told words \"" + text + "\"");
    }

    private static void readAsWord(String text) {
        WordBreaker x = new WordBreaker();
        PlainBreaker y = new PlainBreaker();
        makeReady(x, y);
        put(x, y, text);
        Check.due("word() of \"" + text + "\"", x.word(), y.word());
        dueWord(x, y, "the word \"" + text + "\"");
    }

    private static void readAsText(String text) {
        WordBreaker x = new WordBreaker();
        PlainBreaker y = new PlainBreaker();
        makeReady(x, y);
        put(x, y, text);
        Check.due("text() of \"" + text + "\"", x.text(), y.text());
        dueOut(x, y, "the text \"" + text + "\"");
    }

    private static void makeReady(WordBreaker x, PlainBreaker y) {
        put(x, y, "a1b .a3a b2b1 1ba.");
        Check.due("patterns", x.patterns(), y.patterns());
        put(x, y, "ab-a b-b-b");
        Check.due("told words", x.words(), y.words());
        Check.due("least", x.least(1, 1), y.least(1, 1));
    }

    private static void dueBreaks(WordBreaker x, PlainBreaker y, String behind) {
        Check.due("least", x.least(1, 1), y.least(1, 1));
        String[] words = {"abab", "a", "bb", "aab"};
        for (String word : words) {
            put(x, y, word);
            Check.due("word() of \"" + word + "\" behind " + behind, x.word(), y.word());
            dueWord(x, y, "\"" + word + "\" behind " + behind);
        }
    }

    private static void dueWord(WordBreaker x, PlainBreaker y, String where) {
        for (int i = -1; i <= LONGEST; i++) {
            Check.due("value(" + i + ") of " + where, x.value(i), y.value(i));
            Check.due("place(" + i + ") of " + where, x.place(i), y.place(i));
        }
    }

    private static void dueOut(WordBreaker x, PlainBreaker y, String where) {
        Check.due("size() of " + where, x.size(), y.size());
        for (int i = -1; i <= 2 * LONGEST; i++) {
            Check.due("out(" + i + ") of " + where, x.out(i), y.out(i));
        }
    }

    private static void put(WordBreaker x, PlainBreaker y, String text) {
        for (int i = 0; i < text.length(); i += 8) {
            String part = text.substring(i, Math.min(text.length(), i + 8));
            long w = Check.packed(part);
            Check.due("type(\"" + part + "\")", x.type(w, part.length()), y.type(w, part.length()));
        }
    }
}
