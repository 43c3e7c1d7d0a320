/** Promise 5: how patterns are written, what fits, and the faults. */
public final class PatternsTest {
    private static final String LONG = "abcdefghijklmnopqrstuvwxyz".repeat(3);

    public static void main(String[] args) {
        spaces();
        numbersAndSides();
        greatestNumberCounts();
        miswritten();
        tooLong();
        thereAlready();
        firstFaultCounts();
        nothingComesOfAFault();
        mostPatterns();
        mostLetters();
        Check.finish();
    }

    private static void spaces() {
        WordBreaker x = new WordBreaker();
        Check.duePatterns(x, "", 0);
        Check.duePatterns(x, " ", 0);
        Check.duePatterns(x, "   a1b  .b1   1c.  ", 3);
        Check.due("count(false)", x.count(false), 3);
        Check.due("patterns() of a text that is used up", x.patterns(), 0);
        Check.duePatterns(x, "d", 1);
        Check.due("count(false)", x.count(false), 4);
    }

    private static void numbersAndSides() {
        dueValues("a1b", "abcab", "1001");
        dueValues(".a1b", "abcab", "1000");
        dueValues("a1b.", "abcab", "0001");
        dueValues(".a1b.", "abcab", "0000");
        dueValues(".a1b.", "ab", "1");
        dueValues("9a", "abaa", "099");
        dueValues("a9", "baaa", "099");
        dueValues(".9a9", "aaa", "90");
        dueValues("9a9.", "aaa", "09");
        dueValues("1a2b3", "cabc", "123");
        dueValues("1A2b3", "CABC", "123");
        dueValues("0a0b7", "ababa", "0707");
        dueValues("ab", "abab", "000");
        dueValues("a1b2c3d4e5f6g7h8i9j", "abcdefghij", "123456789");
        dueValues("a1bc", "ab", "0");
        dueValues("1a2a3a4", "aaaa", "234");
    }

    private static void greatestNumberCounts() {
        dueValues("a1b ab2c bc3 1d 4d.", "abcd", "124");
        dueValues("a3b .a2b ab1. 5abc", "ab", "3");
        dueValues("a2b a1bc", "abc", "20");
        dueValues("a1bc a2b", "abc", "20");
        dueValues("x1y", "abc", "00");
    }

    private static void dueValues(String patterns, String word, String values) {
        WordBreaker x = new WordBreaker();
        Check.patterns(x, patterns);
        Check.word(x, word);
        Check.dueValues(x, values);
    }

    private static void miswritten() {
        String[] texts = {"a11b", "1.a", "..a", ".1.", "a.b", "a.1", "a..", "a-b", "-", "a!", "a\u00E4",
            ". a", ".", "5", "5 ", ".5", ".5 a", "  . ", "a b c.d", "11a", "a.1 b", ".11a", "a12.", "1.",
            "a \u00FF", "a b .", "a#b11"};
        int[] at = {2, 1, 1, 2, 2, 2, 2, 1, 0, 1, 1,
            1, 1, 1, 1, 2, 2, 3, 6, 1, 2, 2, 2, 1,
            2, 5, 1};
        for (int i = 0; i < texts.length; i++) {
            WordBreaker x = new WordBreaker();
            Check.duePatterns(x, texts[i], -10000 - at[i]);
            Check.due("count(false)", x.count(false), 0);
            Check.due("word() of a text that is used up", x.word(), -10000);
        }
    }

    private static void tooLong() {
        WordBreaker x = new WordBreaker();
        String longest = LONG.substring(0, 63);
        String over = LONG.substring(0, 64);
        Check.duePatterns(x, over, -20000);
        Check.duePatterns(x, "  a ." + over + ". b", -20004);
        Check.duePatterns(x, "1" + over, -20000);
        Check.duePatterns(x, over + "!", -10064);
        Check.duePatterns(x, over + "11", -10065);
        Check.duePatterns(x, over + " !", -20000);
        Check.duePatterns(x, LONG + "9.", -20000);
        Check.due("count(false)", x.count(false), 0);
        Check.duePatterns(x, "8" + longest.replace("b", "7b") + "9 ." + longest + ".", 2);
        Check.dueWord(x, longest, 2);
        Check.due("value(1)", x.value(1), 7);
        Check.due("value(62)", x.value(62), 0);
    }

    private static void thereAlready() {
        WordBreaker x = new WordBreaker();
        Check.duePatterns(x, "a1b .a1b a1b. .a1b.", 4);
        Check.duePatterns(x, "ab", -30000);
        Check.duePatterns(x, " .1ab", -30001);
        Check.duePatterns(x, "c AB5. d", -30002);
        Check.duePatterns(x, ".a9b.", -30000);
        Check.duePatterns(x, "c d 1c1", -30004);
        Check.due("count(false)", x.count(false), 4);
        Check.duePatterns(x, "a b abc ba", 4);
        Check.dueWords(x, "ab a", 2);
    }

    private static void firstFaultCounts() {
        WordBreaker x = new WordBreaker();
        String over = LONG.substring(0, 64);
        Check.duePatterns(x, "a", 1);
        Check.duePatterns(x, "b a !", -30002);
        Check.duePatterns(x, "b ! a", -10002);
        Check.duePatterns(x, "b a! a", -10003);
        Check.duePatterns(x, over + " a !", -20000);
        Check.duePatterns(x, "a " + over, -30000);
        Check.duePatterns(x, "! " + over, -10000);
    }

    private static void nothingComesOfAFault() {
        WordBreaker x = new WordBreaker();
        x.least(1, 1);
        Check.duePatterns(x, "a1b", 1);
        Check.duePatterns(x, "b1c 1a c1a a1b", -30011);
        Check.due("count(false)", x.count(false), 1);
        Check.dueWord(x, "abca", 1);
        Check.dueValues(x, "100");
        Check.duePatterns(x, "b1c 1a c1a .", -10012);
        Check.duePatterns(x, "b1c c2a", 2);
        Check.dueWord(x, "abca", 2);
        Check.dueValues(x, "112");
        x = new WordBreaker();
        Check.duePatterns(x, ".c1b. d1. .", -10011);
        Check.duePatterns(x, "c4b 6d", 2);
        Check.dueWord(x, "acbd", 0);
        Check.dueValues(x, "046");
    }

    private static void mostPatterns() {
        String all = Texts.thousandPatterns();
        WordBreaker x = new WordBreaker();
        Check.duePatterns(x, all + "q", -40000 - all.length());
        Check.due("count(false)", x.count(false), 0);
        x = new WordBreaker();
        Check.duePatterns(x, all, 1000);
        Check.due("count(false)", x.count(false), 1000);
        Check.duePatterns(x, "q", -40000);
        Check.duePatterns(x, " ab", -30001);
        Check.duePatterns(x, "q!", -10001);
        Check.duePatterns(x, "q !", -40000);
        Check.duePatterns(x, LONG, -20000);
        Check.duePatterns(x, "", 0);
        Check.due("count(false)", x.count(false), 1000);
        Check.dueWords(x, "told", 1);
        Check.due("clear(false)", x.clear(false), 1000);
        Check.duePatterns(x, "q", 1);
    }

    /** More calls than the document speaks of are needed to come to 8000 letters. */
    private static void mostLetters() {
        WordBreaker x = new WordBreaker();
        for (int i = 0; i < 126; i++) {
            Check.patterns(x, Texts.different(i, 63));
        }
        Check.due("count(false)", x.count(false), 126);
        Check.duePatterns(x, Texts.different(126, 61) + "7 8y", 2);
        Check.dueWord(x, Texts.different(126, 61) + "y", 0);
        Check.due("value(61)", x.value(61), 8);
        Check.duePatterns(x, "x", -40000);
        Check.duePatterns(x, "y", -30000);
        Check.due("count(false)", x.count(false), 128);
        Check.dueWords(x, "told", 1);
        x.clear(false);
        Check.duePatterns(x, "x", 1);
    }
}
