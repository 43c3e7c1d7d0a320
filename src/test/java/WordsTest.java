/** Promise 6: how told words are written, what they say of a word, and the faults. */
public final class WordsTest {
    private static final String LONG = "abcdefghijklmnopqrstuvwxyz".repeat(3);

    public static void main(String[] args) {
        hyphens();
        toldBeforePatterns();
        laterOneHolds();
        miswritten();
        tooLong();
        nothingComesOfAFault();
        mostWords();
        mostLetters();
        Check.finish();
    }

    private static void hyphens() {
        WordBreaker x = new WordBreaker();
        x.least(1, 1);
        Check.dueWords(x, "", 0);
        Check.dueWords(x, "    ", 0);
        Check.dueWords(x, "  a-bc   abc-d e  ", 3);
        Check.due("count(true)", x.count(true), 3);
        Check.due("count(false)", x.count(false), 0);
        Check.dueWord(x, "abc", 1);
        Check.dueValues(x, "10");
        Check.dueWord(x, "ABCD", 1);
        Check.dueValues(x, "001");
        Check.dueWord(x, "e", 0);
        Check.dueWord(x, "abcde", 0);
        Check.dueValues(x, "0000");
        Check.dueText(x, "abc Abcd abce xabc", "a-bc Abc-d abce xabc");
    }

    private static void toldBeforePatterns() {
        WordBreaker x = new WordBreaker();
        x.least(1, 1);
        Check.duePatterns(x, "1b 1c 9d", 3);
        Check.dueWords(x, "ab-cd abc", 2);
        Check.dueWord(x, "abcd", 1);
        Check.dueValues(x, "010");
        Check.dueWord(x, "abc", 0);
        Check.dueValues(x, "00");
        Check.dueWord(x, "abcda", 3);
        Check.dueValues(x, "1190");
        Check.duePatterns(x, "abcd", 1);
    }

    private static void laterOneHolds() {
        WordBreaker x = new WordBreaker();
        x.least(1, 1);
        Check.dueWords(x, "a-bc a-b ab-c x", 4);
        Check.due("count(true)", x.count(true), 3);
        Check.dueWord(x, "abc", 1);
        Check.duePlaces(x, "2");
        Check.dueWords(x, "A-B-C", 1);
        Check.due("count(true)", x.count(true), 3);
        Check.dueWord(x, "abc", 2);
        Check.dueWords(x, "a-bc abc", 2);
        Check.dueWord(x, "abc", 0);
        Check.dueWord(x, "ab", 1);
        Check.due("count(true)", x.count(true), 3);
    }

    private static void miswritten() {
        String[] texts = {"-a", "a-", "a- b", "a--b", "a.b", ".ab", "ab.", "a1b", "1", "a!", "a b-c- d",
            " -", "a  b\u00E4", "-", "a-b-"};
        int[] at = {0, 2, 2, 2, 1, 0, 2, 1, 0, 1, 6, 1, 4, 0, 4};
        for (int i = 0; i < texts.length; i++) {
            WordBreaker x = new WordBreaker();
            Check.dueWords(x, texts[i], -10000 - at[i]);
            Check.due("count(true)", x.count(true), 0);
            Check.due("word() of a text that is used up", x.word(), -10000);
        }
    }

    private static void tooLong() {
        WordBreaker x = new WordBreaker();
        String over = LONG.substring(0, 64);
        Check.dueWords(x, over, -20000);
        Check.dueWords(x, " a  " + over, -20004);
        Check.dueWords(x, over + "-", -10065);
        Check.dueWords(x, over + "- ", -10065);
        Check.dueWords(x, over + "--", -10065);
        Check.dueWords(x, over + " -", -20000);
        Check.dueWords(x, "- " + over, -10000);
        Check.due("count(true)", x.count(true), 0);
        String longest = LONG.substring(0, 63);
        String hyphened = longest.replace("", "-").substring(1, 126);
        Check.dueWords(x, hyphened, 1);
        Check.dueWord(x, longest, 59);
        Check.due("value(62)", x.value(62), 1);
    }

    private static void nothingComesOfAFault() {
        WordBreaker x = new WordBreaker();
        x.least(1, 1);
        Check.dueWords(x, "a-bc xy", 2);
        Check.dueWords(x, "ab-c x-y n-ew !", -10014);
        Check.due("count(true)", x.count(true), 2);
        Check.dueWord(x, "abc", 1);
        Check.duePlaces(x, "1");
        Check.dueWord(x, "xy", 0);
        Check.dueWord(x, "new", 0);
        Check.dueWords(x, "n-ew abc " + LONG, -20009);
        Check.dueWord(x, "abc", 1);
        Check.dueWords(x, "n-ew", 1);
        Check.dueWord(x, "new", 1);
        Check.due("count(true)", x.count(true), 3);
    }

    private static void mostWords() {
        String all = Texts.threeHundredWords();
        WordBreaker x = new WordBreaker();
        x.least(1, 1);
        Check.dueWords(x, all + "q", -41200);
        Check.due("count(true)", x.count(true), 0);
        Check.dueWords(x, all, 300);
        Check.dueWords(x, "aa-x b-b-x aax", 3);
        Check.dueWords(x, "a-a-x q", -40006);
        Check.dueWords(x, "q!", -10001);
        Check.dueWords(x, "q !", -40000);
        Check.dueWords(x, LONG, -20000);
        Check.due("count(true)", x.count(true), 300);
        Check.dueWord(x, "aax", 0);
        Check.dueWord(x, "bbx", 2);
        Check.duePatterns(x, "q", 1);
        Check.due("clear(true)", x.clear(true), 300);
        Check.dueWords(x, "q", 1);
    }

    /** More calls than the document speaks of are needed to come to 8000 letters. */
    private static void mostLetters() {
        WordBreaker x = new WordBreaker();
        for (int i = 0; i < 126; i++) {
            Check.words(x, Texts.different(i, 63));
        }
        Check.due("count(true)", x.count(true), 126);
        Check.dueWords(x, Texts.different(126, 61) + " y", 2);
        Check.dueWords(x, "y y " + Texts.different(0, 63), 3);
        Check.dueWords(x, "y x", -40002);
        Check.due("count(true)", x.count(true), 128);
        Check.duePatterns(x, "x", 1);
    }
}
