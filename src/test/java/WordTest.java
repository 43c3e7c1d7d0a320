/** Promises 9, 10 and 11. */
public final class WordTest {
    private static final String LONGEST = "ab".repeat(31) + "a";

    public static void main(String[] args) {
        ordinary();
        faults();
        wordStaysAfterAFault();
        edgesOfPlaceAndValue();
        asItWasFound();
        shortAndLong();
        Check.finish();
    }

    private static WordBreaker withPatterns() {
        WordBreaker x = new WordBreaker();
        Check.duePatterns(x, "hy3ph he2n hena4 hen5at 1na n2at 1tio 2io o2n", 9);
        return x;
    }

    private static void ordinary() {
        WordBreaker x = withPatterns();
        Check.dueWord(x, "hyphenation", 2);
        Check.dueValues(x, "0300254202");
        Check.duePlaces(x, "2 6");
        Check.due("word() of a text that is used up", x.word(), -10000);
        Check.dueWord(x, "Hyphen", 1);
        Check.duePlaces(x, "2");
        Check.dueValues(x, "03002");
    }

    private static void faults() {
        WordBreaker x = new WordBreaker();
        Check.dueWord(x, "", -10000);
        Check.dueWord(x, " ", -10000);
        Check.dueWord(x, " a", -10000);
        Check.dueWord(x, "a ", -10001);
        Check.dueWord(x, "ab-c", -10002);
        Check.dueWord(x, "abc.", -10003);
        Check.dueWord(x, "ab\u00E4", -10002);
        Check.dueWord(x, LONGEST + "a", -20000);
        Check.dueWord(x, LONGEST + "1", -10063);
        Check.dueWord(x, LONGEST + "aa1", -10065);
        Check.dueWord(x, LONGEST.repeat(60), -20000);
        Check.due("word() of a text that is used up", x.word(), -10000);
        Check.dueWord(x, LONGEST, 0);
    }

    private static void wordStaysAfterAFault() {
        WordBreaker x = withPatterns();
        Check.dueWord(x, "hyphenation", 2);
        String[] wrong = {"", "1", "hyphen1", LONGEST + "a"};
        for (String text : wrong) {
            Check.due("word() of " + text, Check.word(x, text) < 0, true);
            Check.dueValues(x, "0300254202");
            Check.duePlaces(x, "2 6");
        }
    }

    private static void edgesOfPlaceAndValue() {
        WordBreaker x = withPatterns();
        Check.dueWord(x, "hyphenation", 2);
        int[] outside = {-1, 2, 3, 11, 63, 64, Integer.MIN_VALUE, Integer.MAX_VALUE};
        for (int i : outside) {
            Check.due("place(" + i + ")", x.place(i), -1);
        }
        int[] noPlace = {0, -1, 11, 12, 63, 64, Integer.MIN_VALUE, Integer.MAX_VALUE};
        for (int k : noPlace) {
            Check.due("value(" + k + ")", x.value(k), -1);
        }
        Check.due("value(1)", x.value(1), 0);
        Check.due("value(10)", x.value(10), 2);
    }

    private static void asItWasFound() {
        WordBreaker x = withPatterns();
        Check.dueWord(x, "hyphenation", 2);
        Check.dueWords(x, "hyphenat-ion", 1);
        Check.duePatterns(x, "9a", 1);
        x.least(1, 1);
        x.letter('h', 0);
        Check.dueText(x, "nation", "n-a-tion");
        Check.dueValues(x, "0300254202");
        Check.duePlaces(x, "2 6");
        x.letter('h', 8);
        Check.dueWord(x, "hyphenation", 1);
        Check.duePlaces(x, "8");
        Check.dueValues(x, "0000000100");
    }

    private static void shortAndLong() {
        WordBreaker x = new WordBreaker();
        x.least(1, 1);
        Check.duePatterns(x, "1a1 1b1", 2);
        Check.dueWord(x, "a", 0);
        Check.due("value(1)", x.value(1), -1);
        Check.dueWord(x, "ab", 1);
        Check.dueWord(x, LONGEST, 62);
        Check.due("place(61)", x.place(61), 62);
        Check.due("place(62)", x.place(62), -1);
        Check.due("value(62)", x.value(62), 1);
        Check.due("value(63)", x.value(63), -1);
        Check.dueWord(x, "ab", 1);
        Check.dueValues(x, "1");
        Check.duePlaces(x, "1");
    }
}
