/** Promise 1, and the letters and least parts that stand at first. */
public final class NewObjectTest {
    public static void main(String[] args) {
        nothingIsThere();
        textIsEmpty();
        lettersAtFirst();
        leastPartsAtFirst();
        objectsAreApart();
        Check.finish();
    }

    private static void nothingIsThere() {
        WordBreaker x = new WordBreaker();
        Check.due("NONE", WordBreaker.NONE, -1);
        Check.due("count(false)", x.count(false), 0);
        Check.due("count(true)", x.count(true), 0);
        Check.due("clear(false)", x.clear(false), 0);
        Check.due("clear(true)", x.clear(true), 0);
        for (int i = -2; i < 70; i++) {
            Check.due("place(" + i + ")", x.place(i), -1);
            Check.due("value(" + i + ")", x.value(i), -1);
            Check.due("out(" + i + ")", x.out(i), -1);
        }
        Check.due("size()", x.size(), 0);
    }

    private static void textIsEmpty() {
        Check.due("word()", new WordBreaker().word(), -10000);
        Check.due("patterns()", new WordBreaker().patterns(), 0);
        Check.due("words()", new WordBreaker().words(), 0);
        WordBreaker x = new WordBreaker();
        Check.due("text()", x.text(), 0);
        Check.dueOut(x, "");
    }

    private static void lettersAtFirst() {
        WordBreaker x = new WordBreaker();
        for (int c = 1; c < 256; c++) {
            boolean letter = c >= 'a' && c <= 'z' || c >= 'A' && c <= 'Z';
            x.type(c, 1);
            Check.due("word() of character " + c, x.word(), letter ? 0 : -10000);
        }
        x = new WordBreaker();
        Check.dueWords(x, "abcdefghijklm nopqrstuvwxyz", 2);
        Check.dueWords(x, "A-BCDEFGHIJKL-M N-OPQRSTUVWXY-Z", 2);
        Check.due("count(true)", x.count(true), 2);
        Check.dueWord(x, "abcdefghijklm", 0);
        Check.dueValues(x, "100000000001");
    }

    private static void leastPartsAtFirst() {
        WordBreaker x = new WordBreaker();
        Check.dueWords(x, "a-b-c-d-e-f", 1);
        Check.dueWord(x, "abcdef", 2);
        Check.duePlaces(x, "2 3");
    }

    private static void objectsAreApart() {
        WordBreaker x = new WordBreaker();
        WordBreaker y = new WordBreaker();
        x.letter('#', 5);
        Check.duePatterns(x, "a1b #", 2);
        Check.put(x, "ab");
        Check.due("count(false) of the other", y.count(false), 0);
        Check.duePatterns(y, "#", -10000);
        Check.due("word() of the other", y.word(), -10000);
    }
}
