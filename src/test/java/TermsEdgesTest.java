/** The edges that the section "Terms" names, sentence by sentence, up to the faults. */
public final class TermsEdgesTest {
    public static void main(String[] args) {
        lastCall();
        characters();
        letters();
        lettersOfTheAlphabet();
        otherCharacters();
        neverLetters();
        lengthsOfPatterns();
        numbersOfPatterns();
        lengthsOfWords();
        fitsFromALetterOn();
        fitsAtTheBegin();
        fitsAtTheEnd();
        places();
        hyphensOfToldWords();
        valueInToldWords();
        valueIsTheGreatest();
        valueWithoutAny();
        brokenIfOdd();
        brokenBetweenLeastParts();
        fullText();
        usedUp();
        spacesRoundPatterns();
        digitsAndDotsOfPatterns();
        digitsThatCannotBeThere();
        toldWordsAreWritten();
        Check.finish();
    }

    private static void lastCall() {
        Run x = new Run("An object is used for at most 512 calls after it has been made");
        x.least(1, 1, true);
        x.patterns("a1b", 1);
        x.put("ab ab ab".repeat(500));
        x.text("", 1500);
        x.size(5500);
        x.out(0, 'a');
        x.out(1, '-');
        x.out(5498, '-');
        x.word("ab", 1);
        x.place(0, 1);
        x.value(1, 1);
        Check.due("calls of the longest run", x.calls(), 512);
    }

    private static void characters() {
        Run x = new Run("CHARACTERS are 1 .. 255.");
        x.type(0, 1, false);
        x.type(1, 1, true);
        x.type(255, 1, true);
        x.type(256, 1, false);
        x.letter(-1, 1, false);
        x.letter(0, 1, false);
        x.letter(1, 1, true);
        x.letter(255, 1, true);
        x.letter(256, 1, false);
        x.text("", 0);
        x.shown("\u0001\u00FF");
    }

    private static void letters() {
        Run x = new Run("A LETTER is a number 1 .. 63, and each character stands for one, or for none");
        x.letter('!', 64, false);
        x.word("!", -10000);
        x.letter('!', 63, true);
        x.word("!", 0);
        x.letter('+', 1, true);
        x.word("+", 0);
        x.least(1, 1, true);
        x.patterns("!1! a1a", 2);
        x.word("++!!", 2);
        x.values("101");
        x.letter('!', -1, false);
        x.letter('!', 0, true);
        x.word("!", -10000);
    }

    private static void lettersOfTheAlphabet() {
        Run x = new Run("at first a and A for 1, .. z and Z for 26");
        String alphabet = "abcdefghijklmnopqrstuvwxyz";
        StringBuilder others = new StringBuilder();
        for (int letter = 1; letter <= 26; letter++) {
            x.letter(199 + letter, letter, true);
            others.append((char) (199 + letter));
        }
        x.words("abcde-fghijklmnopqrstuv-wxyz", 1);
        x.word(alphabet.toUpperCase(), 2);
        x.places(5, 22);
        x.word(others.toString(), 2);
        x.places(5, 22);
        x.words(alphabet.toUpperCase(), 1);
        x.word(alphabet, 0);
        x.count(true, 1);
    }

    private static void otherCharacters() {
        Run x = new Run("all others for none");
        for (int c = 1; c < 256; c++) {
            boolean letter = c >= 'a' && c <= 'z' || c >= 'A' && c <= 'Z';
            x.word(String.valueOf((char) c), letter ? 0 : -10000);
        }
    }

    private static void neverLetters() {
        Run x = new Run("(The space 32, - 45, . 46, and digits 48 .. 57 never stand for a letter.)");
        int[] never = {32, 45, 46, 48, 49, 50, 51, 52, 53, 54, 55, 56, 57};
        for (int c : never) {
            x.letter(c, 1, false);
            x.letter(c, 63, false);
            x.letter(c, 0, false);
            x.word(String.valueOf((char) c), -10000);
        }
        int[] beside = {31, 33, 44, 47, 58};
        for (int c : beside) {
            x.letter(c, 1, true);
            x.word(String.valueOf((char) c), 0);
        }
    }

    private static void lengthsOfPatterns() {
        Run x = new Run("A PATTERN is a row of 1 to 63 letters");
        x.patterns("1", -10001);
        x.patterns("a", 1);
        x.patterns(Texts.LONGEST, 1);
        x.patterns("." + Texts.LONGEST + ".", 1);
        x.patterns(Texts.TOO_LONG, -20000);
        x.patterns("." + Texts.TOO_LONG + ".", -20000);
        x.count(false, 3);
    }

    private static void numbersOfPatterns() {
        Run x = new Run("with a number 0 .. 9 before the first letter, between any two, and behind the last one");
        StringBuilder pattern = new StringBuilder("0");
        StringBuilder values = new StringBuilder("0");
        for (int i = 1; i <= 61; i++) {
            pattern.append(Texts.LONGEST.charAt(i)).append(i % 10);
            values.append(i % 10);
        }
        x.patterns(pattern.toString(), 1);
        x.word(Texts.LONGEST, 30);
        x.values(values.toString());
        x.patterns("9" + Texts.LONGEST + "9 9a9", 2);
        x.word("bab", 0);
        x.values("99");
        x.patterns("xyz", 1);
        x.word("xyzxyz", 0);
        x.values("00000");
    }

    private static void lengthsOfWords() {
        Run x = new Run("A WORD is a row of 1 to 63 letters.");
        x.words(Texts.hyphened(Texts.LONGEST) + " a", 2);
        x.words(Texts.TOO_LONG, -20000);
        x.word("", -10000);
        x.word("a", 0);
        x.word(Texts.LONGEST, 59);
        x.word(Texts.TOO_LONG, -20000);
    }

    private static void fitsFromALetterOn() {
        Run x = new Run("FITS a word from its letter i on, if the word's letters from i on are those of the pattern");
        x.patterns("1abc2 3d4 bcde5", 3);
        x.word("xabc", 0);
        x.values("100");
        x.word("abc", 0);
        x.values("00");
        x.word("ab", 0);
        x.values("0");
        x.word("xab", 0);
        x.values("00");
        x.word("xabb", 0);
        x.values("000");
        x.word("xbbc", 0);
        x.values("000");
        x.word("xacc", 0);
        x.values("000");
        x.word("dd", 0);
        x.values("4");
        x.word("xbcd", 0);
        x.values("003");
        x.word("bcdex", 1);
        x.values("0345");
        x.word("abcabcx", 0);
        x.values("002002");
    }

    private static void fitsAtTheBegin() {
        Run x = new Run("and i is its first one if the pattern is at the begin");
        x.patterns(".a7 .ab3", 2);
        x.word("aaaa", 0);
        x.values("700");
        x.word("ababab", 1);
        x.values("73000");
        x.word("baba", 0);
        x.values("000");
        x.word("a", 0);
        x.values("");
    }

    private static void fitsAtTheEnd() {
        Run x = new Run("and the pattern's last letter its last one if that is at the end");
        x.patterns("7a. 3ba. .5c4d. .c.", 4);
        x.word("aaaa", 0);
        x.values("007");
        x.word("bababa", 0);
        x.values("00037");
        x.word("abab", 0);
        x.values("000");
        x.word("cd", 0);
        x.values("4");
        x.word("cdd", 0);
        x.values("00");
        x.word("ccd", 0);
        x.values("00");
    }

    private static void places() {
        Run x = new Run("The PLACES 1 .. n - 1 of a word of n letters are those between its letters");
        x.least(1, 1, true);
        x.words(Texts.hyphened(Texts.LONGEST) + " a a-b", 3);
        x.word("a", 0);
        x.values("");
        x.value(0, -1);
        x.word("ab", 1);
        x.values("1");
        x.value(0, -1);
        x.word(Texts.LONGEST, 62);
        x.value(0, -1);
        x.value(1, 1);
        x.value(62, 1);
        x.value(63, -1);
        x.place(0, 1);
        x.place(61, 62);
        x.place(62, -1);
    }

    private static void hyphensOfToldWords() {
        Run x = new Run("A TOLD WORD has a hyphen at some of its places.");
        x.least(1, 1, true);
        x.words("abcd a-bce ab-cf abc-g a-b-c-h i", 6);
        x.word("abcd", 0);
        x.word("abce", 1);
        x.places(1);
        x.word("abcf", 1);
        x.places(2);
        x.word("abcg", 1);
        x.places(3);
        x.word("abch", 3);
        x.places(1, 2, 3);
        x.word("i", 0);
    }

    private static void valueInToldWords() {
        Run x = new Run("THE VALUE of a place: in a word that is a told one, 1 with a hyphen and 0 without");
        x.patterns("9a9 8b8", 2);
        x.words("ab-ab bb", 2);
        x.word("abab", 0);
        x.values("010");
        x.word("bb", 0);
        x.values("0");
        x.word("aba", 0);
        x.values("99");
        x.word("ababa", 1);
        x.values("9999");
    }

    private static void valueIsTheGreatest() {
        Run x = new Run("in others the greatest of the numbers that patterns that fit have there, wherever they fit");
        x.patterns("a1b 2b .a3b b4c 9bd a0bc c5a", 7);
        x.word("abc", 0);
        x.values("34");
        x.word("cabab", 0);
        x.values("5202");
        x.patterns("a8bab", 1);
        x.word("cabab", 0);
        x.values("5802");
    }

    private static void valueWithoutAny() {
        Run x = new Run("0 without any");
        x.word("abc", 0);
        x.values("00");
        x.patterns("9d9 ab", 2);
        x.word("abc", 0);
        x.values("00");
    }

    private static void brokenIfOdd() {
        Run x = new Run("A word is BROKEN at place k if its value is odd");
        x.least(1, 1, true);
        x.patterns("a0b1c2d3e4f5g6h7i8j9k", 1);
        x.word("abcdefghijk", 5);
        x.places(2, 4, 6, 8, 10);
    }

    private static void brokenBetweenLeastParts() {
        Run x = new Run("k is LEFT at least, and n - k RIGHT at least (at first 2 and 3).");
        x.patterns("1a1", 1);
        x.word("aaaa", 0);
        x.word("aaaaa", 1);
        x.places(2);
        x.word("aaaaaa", 2);
        x.places(2, 3);
        x.least(4, 1, true);
        x.word("aaaa", 0);
        x.word("aaaaaa", 2);
        x.places(4, 5);
        x.least(1, 4, true);
        x.word("aaaa", 0);
        x.word("aaaaaa", 2);
        x.places(1, 2);
    }

    private static void fullText() {
        Run x = new Run("THE TEXT is a row of at most 4000 characters");
        x.put("#".repeat(4000));
        x.type('!', 1, false);
        x.text("", 0);
        x.size(4000);
        x.out(3999, '#');
        x.out(4000, -1);
    }

    private static void usedUp() {
        Run x = new Run("each call that reads it uses it up, whatever it answers");
        String[] texts = {"ab", "a b", "11", "-", "!", Texts.TOO_LONG, "ab"};
        int[] patterns = {1, -30002, -10001, -10000, -10000, -20000, -30000};
        int[] words = {1, 2, -10000, -10000, -10000, -20000, 1};
        int[] word = {0, -10001, -10000, -10000, -10000, -20000, 0};
        x.patterns("b", 1);
        for (int i = 0; i < texts.length; i++) {
            x.patterns(texts[i], patterns[i]);
            x.patterns("", 0);
            x.words(texts[i], words[i]);
            x.words("", 0);
            x.word(texts[i], word[i]);
            x.word("", -10000);
            x.text(texts[i], 0);
            x.size(texts[i].length());
            x.text("", 0);
            x.size(0);
        }
    }

    private static void spacesRoundPatterns() {
        String sentence = "PATTERNS ARE WRITTEN one behind the other with any spaces before, between and behind them";
        Run x = new Run(sentence);
        x.patterns("", 0);
        x.patterns(" ", 0);
        x.patterns("a", 1);
        x.patterns(" b", 1);
        x.patterns("c ", 1);
        x.patterns("   d      .e    f.   ", 3);
        x.patterns(".g .h. i", 3);
        x.count(false, 9);
        x = new Run(sentence);
        x.patterns(" ".repeat(3999) + "a", 1);
        x.word("a", 0);
        x = new Run(sentence);
        x.patterns("a" + " ".repeat(3998) + "b", 2);
        x.count(false, 2);
        x = new Run(sentence);
        x.patterns(" ".repeat(4000), 0);
    }

    private static void digitsAndDotsOfPatterns() {
        Run x = new Run("with a digit in front of the first one, between them, or behind the last one "
            + "for a number that is not 0 (or 0); perhaps . for the end");
        x.patterns("ab 1ac a2d ae3 .af ag. .ah.", 7);
        x.patterns(".4ai aj5. .6a7k8. 0al0 .9am a9n.", 6);
        x.word("xac", 0);
        x.values("10");
        x.word("xae", 0);
        x.values("00");
        x.word("aex", 0);
        x.values("03");
        x.word("ad", 0);
        x.values("2");
        x.word("ak", 0);
        x.values("7");
        x.word("xalx", 0);
        x.values("000");
        x.word("an", 0);
        x.values("9");
        x.word("ajx", 0);
        x.values("00");
    }

    private static void digitsThatCannotBeThere() {
        Run x = new Run("(No two digits stand together, none before the . of the begin or behind that of the end.)");
        x.patterns("11a", -10001);
        x.patterns(".00a", -10002);
        x.patterns("a12b", -10002);
        x.patterns("a99", -10002);
        x.patterns("a99.", -10002);
        x.patterns("1.a", -10001);
        x.patterns("a.1", -10002);
        x.patterns("a1.1", -10003);
        x.patterns(".a.0 b", -10003);
        x.count(false, 0);
        x.patterns("a1 1b .1c .1d1.", 4);
    }

    private static void toldWordsAreWritten() {
        Run x = new Run("TOLD WORDS ARE WRITTEN likewise: letters, with a - between two of them for a hyphen.");
        x.words("", 0);
        x.words("   ", 0);
        x.words("a", 1);
        x.words("  b-c   d  ", 2);
        x.words("-a", -10000);
        x.words(" -", -10001);
        x.words("a-", -10002);
        x.words("a- b", -10002);
        x.words("a -b", -10002);
        x.words("a--b", -10002);
        x.words(".a", -10000);
        x.words("a.", -10001);
        x.words("a1", -10001);
        x.words("0a", -10000);
        x.count(true, 3);
    }
}
