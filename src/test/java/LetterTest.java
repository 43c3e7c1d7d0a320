/** Promise 3. */
public final class LetterTest {
    public static void main(String[] args) {
        wrongOnes();
        wrongOnesChangeNothing();
        allThatMay();
        noLetterAnyMore();
        sameLetterForMany();
        whatWasReadStays();
        typedTextIsReadAsLettersAreThen();
        Check.finish();
    }

    private static void wrongOnes() {
        WordBreaker x = new WordBreaker();
        int[] never = {0, -1, 256, 257, 32, 45, 46, 48, 49, 50, 51, 52, 53, 54, 55, 56, 57,
            Integer.MIN_VALUE, Integer.MAX_VALUE};
        for (int c : never) {
            Check.due("letter(" + c + ", 1)", x.letter(c, 1), false);
            Check.due("letter(" + c + ", 0)", x.letter(c, 0), false);
        }
        int[] noLetters = {-1, 64, 65, Integer.MIN_VALUE, Integer.MAX_VALUE};
        for (int letter : noLetters) {
            Check.due("letter(97, " + letter + ")", x.letter('a', letter), false);
        }
    }

    private static void wrongOnesChangeNothing() {
        WordBreaker x = new WordBreaker();
        x.letter('a', 64);
        x.letter('b', -1);
        x.letter('1', 1);
        x.letter('-', 1);
        Check.dueWord(x, "ab", 0);
        Check.dueWord(x, "a1", -10001);
        Check.dueWord(x, "a-b", -10001);
    }

    private static void allThatMay() {
        WordBreaker x = new WordBreaker();
        int n = 0;
        for (int c = 1; c < 256; c++) {
            boolean never = c == 32 || c == 45 || c == 46 || c >= 48 && c <= 57;
            if (!never && n < 120) {
                n++;
                Check.due("letter(" + c + ")", x.letter(c, n % 63 + 1), true);
                x.type(c, 1);
                Check.due("word() of character " + c, x.word(), 0);
            }
        }
        Check.due("letter(255, 63)", x.letter(255, 63), true);
        Check.due("letter(1, 1)", x.letter(1, 1), true);
        Check.dueWord(x, "\u0001\u00FF", 0);
        lastLetter();
    }

    private static void lastLetter() {
        WordBreaker x = new WordBreaker();
        x.least(1, 1);
        x.letter('#', 63);
        x.letter('+', 62);
        Check.duePatterns(x, "#1a +2a", 2);
        Check.duePatterns(x, "#a", -30000);
        Check.dueWords(x, "#-# ++-#", 2);
        Check.dueWord(x, "+a#a", 1);
        Check.dueValues(x, "201");
        Check.dueWord(x, "##", 1);
        Check.dueWord(x, "++#", 1);
        Check.duePlaces(x, "2");
    }

    private static void noLetterAnyMore() {
        WordBreaker x = new WordBreaker();
        Check.due("letter(a, 0)", x.letter('a', 0), true);
        Check.dueWord(x, "ba", -10001);
        Check.dueWord(x, "bA", 0);
        Check.duePatterns(x, "A1a", -10002);
        Check.duePatterns(x, "A1b", 1);
        Check.due("least", x.least(1, 1), true);
        Check.dueText(x, "AbabAb", "A-babA-b");
    }

    private static void sameLetterForMany() {
        WordBreaker x = new WordBreaker();
        x.letter(228, 1);
        x.letter('!', 27);
        x.least(1, 1);
        Check.duePatterns(x, "\u00E41!", 1);
        Check.duePatterns(x, "a!", -30000);
        Check.dueWord(x, "a!A!", 2);
        Check.dueValues(x, "101");
    }

    private static void whatWasReadStays() {
        WordBreaker x = new WordBreaker();
        x.least(1, 1);
        Check.duePatterns(x, "a1b", 1);
        Check.dueWords(x, "c-d", 1);
        Check.dueWord(x, "ab", 1);
        Check.dueText(x, "abcd", "a-bcd");
        x.letter('a', 3);
        x.letter('b', 0);
        Check.dueValues(x, "1");
        Check.duePlaces(x, "1");
        Check.dueOut(x, "a-bcd");
        Check.dueWord(x, "ad", 1);
        Check.dueWord(x, "Ab", -10001);
        x.letter('x', 2);
        Check.dueWord(x, "Ax", 1);
        Check.duePatterns(x, "Ax", -30000);
    }

    private static void typedTextIsReadAsLettersAreThen() {
        WordBreaker x = new WordBreaker();
        Check.put(x, "a#");
        x.letter('#', 9);
        Check.due("word()", x.word(), 0);
        Check.put(x, "a#");
        x.letter('#', 0);
        Check.due("word()", x.word(), -10001);
    }
}
