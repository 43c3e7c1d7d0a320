/** The edges that promises 5 to 14 name, sentence by sentence. */
public final class ReadingEdgesTest {
    private static final int[] EXTREMES = {-1, -2, Integer.MIN_VALUE, Integer.MIN_VALUE + 1, Integer.MAX_VALUE};

    public static void main(String[] args) {
        howManyPatterns();
        howManyToldWords();
        writtenTwice();
        clearOfAll();
        clearLeavesWhatWasFound();
        count();
        wordAsThingsAreNow();
        wordOfMiswrittenTexts();
        wordThatIsTooLong();
        wordStaysAfterAFault();
        place();
        placeAsItWasFound();
        value();
        valueAsItWasFound();
        emptyText();
        inPlaceOfWhatWasThere();
        hyphensAtEachPlace();
        wordsInTexts();
        longWordsInTexts();
        howManyCameIn();
        wordStaysAfterText();
        size();
        out();
        Check.finish();
    }

    private static void howManyPatterns() {
        String sentence = "PATTERNS come in from the text: how many; less a fault.";
        Run x = new Run(sentence);
        x.patterns("", 0);
        x.patterns("   ", 0);
        x.patterns("a", 1);
        x.patterns("b c", 2);
        x.patterns("d !", -10002);
        x.count(false, 3);
        x = new Run(sentence);
        x.patterns(Texts.thousandPatterns(), 1000);
    }

    private static void howManyToldWords() {
        String sentence = "TOLD WORDS come in from the text: how many are written there; less a fault.";
        Run x = new Run(sentence);
        x.words("", 0);
        x.words("   ", 0);
        x.words("a", 1);
        x.words("b c", 2);
        x.words("d !", -10002);
        x.count(true, 3);
        x = new Run(sentence);
        x.words(Texts.threeHundredWords(), 300);
        x.words("aax ".repeat(301), 301);
        x.count(true, 300);
        x = new Run(sentence);
        x.words("a ".repeat(2000), 2000);
        x.count(true, 1);
    }

    private static void writtenTwice() {
        Run x = new Run("(One that is written twice counts twice; the later one holds.)");
        x.words("a-bc ab-c", 2);
        x.count(true, 1);
        x.word("abc", 0);
        x.values("01");
        x.words("a-b-c abc A-BC", 3);
        x.count(true, 1);
        x.word("abc", 0);
        x.values("10");
        x.words("abc d abc", 3);
        x.word("abc", 0);
        x.values("00");
        x.count(true, 2);
    }

    private static void clearOfAll() {
        String sentence = "All patterns go (or all told words): how many there were.";
        Run x = new Run(sentence);
        x.clear(false, 0);
        x.clear(true, 0);
        x.patterns("a9b b7c", 2);
        x.words("a-b", 1);
        x.clear(false, 2);
        x.clear(false, 0);
        x.word("abc", 0);
        x.values("00");
        x.word("ab", 0);
        x.values("1");
        x.patterns("a9b", 1);
        x.clear(true, 1);
        x.clear(true, 0);
        x.word("ab", 0);
        x.values("9");
        x = new Run(sentence);
        x.patterns(Texts.thousandPatterns(), 1000);
        x.clear(false, 1000);
        x.count(false, 0);
        x.patterns("ab", 1);
        x = new Run(sentence);
        x.words(Texts.threeHundredWords(), 300);
        x.clear(true, 300);
        x.count(true, 0);
        x.words("aax q", 2);
    }

    private static void clearLeavesWhatWasFound() {
        Run x = new Run("(What word() found stays.)");
        x.patterns("a3b", 1);
        x.words("ab-ab", 1);
        x.word("abcab", 0);
        x.clear(false, 1);
        x.values("3003");
        x.places();
        x.patterns("1a1", 1);
        x.word("aaaaa", 1);
        x.clear(false, 1);
        x.clear(true, 1);
        x.values("1111");
        x.places(2);
    }

    private static void count() {
        String sentence = "How many patterns there are (or told words).";
        Run x = new Run(sentence);
        x.count(false, 0);
        x.count(true, 0);
        x.patterns("a b c", 3);
        x.count(true, 0);
        x.words("a b a", 3);
        x.count(true, 2);
        x.count(false, 3);
        x.clear(false, 3);
        x.count(false, 0);
        x.count(true, 2);
        x = new Run(sentence);
        x.patterns(Texts.thousandPatterns(), 1000);
        x.count(false, 1000);
        x.patterns("q", -40000);
        x.count(false, 1000);
        x = new Run(sentence);
        x.words(Texts.threeHundredWords(), 300);
        x.count(true, 300);
        x.words("q", -40000);
        x.count(true, 300);
    }

    private static void wordAsThingsAreNow() {
        Run x = new Run("at how many places it is broken (as LEFT, RIGHT, patterns and told words are now)");
        x.word("aaaaa", 0);
        x.patterns("1a1", 1);
        x.word("aaaaa", 1);
        x.least(1, 1, true);
        x.word("aaaaa", 4);
        x.words("aa-aa-a", 1);
        x.word("aaaaa", 2);
        x.word("a", 0);
        x.word("a".repeat(63), 62);
        x.clear(true, 1);
        x.word("aaaaa", 4);
        x.clear(false, 1);
        x.word("aaaaa", 0);
    }

    private static void wordOfMiswrittenTexts() {
        String sentence = "1 at the first character that is no letter (or 0 for an empty text)";
        Run x = new Run(sentence);
        x.word("", -10000);
        x.word(" ", -10000);
        x.word(" a", -10000);
        x.word("a ", -10001);
        x.word("a-b", -10001);
        x.word("ab.", -10002);
        x.word("abc1-", -10003);
        x.word("a\u00FF", -10001);
        x.word(Texts.LONGEST + "!", -10063);
        x = new Run(sentence);
        x.word(Texts.letters(3999) + "1", -13999);
    }

    private static void wordThatIsTooLong() {
        String sentence = "2 at 0: there are more than 63 (1 comes first).";
        Run x = new Run(sentence);
        x.word(Texts.LONGEST, 0);
        x.word(Texts.TOO_LONG, -20000);
        x.word(Texts.TOO_LONG + "1", -10064);
        x.word(Texts.TOO_LONG + "aaa-aaa", -10067);
        x.word(" " + Texts.TOO_LONG, -10000);
        x = new Run(sentence);
        x.word(Texts.letters(4000), -20000);
    }

    private static void wordStaysAfterAFault() {
        Run x = new Run("Less a fault, and the WORD stays");
        x.word("1", -10000);
        x.values("");
        x.places();
        x.patterns("1a1 2b2", 2);
        x.word("aaaaab", 2);
        x.word("", -10000);
        x.word("bbbb1", -10004);
        x.word(Texts.TOO_LONG, -20000);
        x.values("11112");
        x.places(2, 3);
    }

    private static void place() {
        Run x = new Run("Where the WORD is broken, the i-th place (from 0 on), as it was found by word(). "
            + "NONE when there is none.");
        x.place(0, -1);
        x.least(1, 1, true);
        x.patterns("1a1", 1);
        x.word("aaaa", 3);
        x.places(1, 2, 3);
        for (int i : EXTREMES) {
            x.place(i, -1);
        }
        x.word("a".repeat(63), 62);
        x.place(61, 62);
        x.place(62, -1);
        x.place(63, -1);
        x.word("aa", 1);
        x.places(1);
        x.word("a", 0);
        x.places();
        x.word("bbbb", 0);
        x.places();
    }

    private static void placeAsItWasFound() {
        Run x = new Run("Where the WORD is broken, the i-th place (from 0 on), as it was found by word().");
        x.patterns("1a1", 1);
        x.word("aaaaa", 1);
        x.least(1, 1, true);
        x.words("aaaaa", 1);
        x.clear(false, 1);
        x.letter('a', 0, true);
        x.text("aaa", 0);
        x.places(2);
    }

    private static void value() {
        Run x = new Run("THE VALUE of place k of the WORD, as it was found by word(). NONE when there is no such place.");
        x.value(1, -1);
        x.patterns("9a8", 1);
        x.word("aaa", 0);
        x.values("99");
        x.value(0, -1);
        x.value(3, -1);
        for (int k : EXTREMES) {
            x.value(k, -1);
        }
        x.word("a".repeat(63), 59);
        x.value(1, 9);
        x.value(62, 9);
        x.value(63, -1);
        x.value(64, -1);
        x.word("ba", 0);
        x.values("9");
        x.word("a", 0);
        x.value(0, -1);
        x.values("");
    }

    private static void valueAsItWasFound() {
        Run x = new Run("THE VALUE of place k of the WORD, as it was found by word().");
        x.patterns("7a", 1);
        x.word("aaa", 0);
        x.words("a-aa", 1);
        x.patterns("a8a", 1);
        x.least(1, 1, true);
        x.letter('a', 9, true);
        x.text("aaa aa", 0);
        x.clear(false, 2);
        x.values("77");
    }

    private static void emptyText() {
        Run x = new Run("The text, which is empty then");
        x.text("", 0);
        x.size(0);
        x.text("ab", 0);
        x.word("", -10000);
        x.text("ab", 0);
        x.patterns("", 0);
        x.text("", 0);
        x.shown("");
    }

    private static void inPlaceOfWhatWasThere() {
        Run x = new Run("goes into OUT, in place of what was there");
        x.text("a longer text", 0);
        x.text("short", 0);
        x.shown("short");
        x.put("typed alone");
        x.shown("short");
        x.text("", 0);
        x.shown("typed alone");
        x.patterns("!", -10000);
        x.shown("typed alone");
        x.text("", 0);
        x.shown("");
    }

    private static void hyphensAtEachPlace() {
        Run x = new Run("with a - at each place at which its words are broken");
        x.patterns("1a1", 1);
        x.words("ri-ver", 1);
        x.text("a aa aaa aaaa aaaaa", 1);
        x.shown("a aa aaa aaaa aa-aaa");
        x.text("Aaaaaa-River", 3);
        x.shown("Aa-a-aaa-Ri-ver");
        x.least(1, 1, true);
        x.text("a aa river ", 2);
        x.shown("a a-a ri-ver ");
    }

    private static void wordsInTexts() {
        Run x = new Run("all letters that stand together are a word");
        x.least(1, 1, true);
        x.patterns(".a1 1b.", 2);
        x.text("aa", 1);
        x.shown("a-a");
        x.text("1aacbb.aacbb-aacbb ", 6);
        x.shown("1a-acb-b.a-acb-b-a-acb-b ");
        x.text("cbb!\u00FFaac", 2);
        x.shown("cb-b!\u00FFa-ac");
        x.letter('!', 27, true);
        x.text("cbb!aac", 0);
        x.shown("cbb!aac");
        x.text("b", 0);
        x.shown("b");
    }

    private static void longWordsInTexts() {
        String sentence = "but not broken if there are more than 63";
        Run x = new Run(sentence);
        x.least(1, 1, true);
        x.patterns("1a1 .a3b", 2);
        String most = "a".repeat(63);
        x.text(most, 62);
        x.size(125);
        x.text(most + "a", 0);
        x.size(64);
        x.text("aa " + most + "a aa", 2);
        x.size(72);
        x.out(1, '-');
        x.out(4, 'a');
        x.out(5, 'a');
        x.out(70, '-');
        x.text(most + "a" + most, 0);
        x.size(127);
        x.text(most + " " + most, 124);
        x.size(251);
        x = new Run(sentence);
        x.least(1, 1, true);
        x.patterns("1a1", 1);
        x.text("a".repeat(4000), 0);
        x.size(4000);
        x.out(3999, 'a');
    }

    private static void howManyCameIn() {
        String sentence = "How many - came in.";
        Run x = new Run(sentence);
        x.text("", 0);
        x.text("--- a-b", 0);
        x.size(7);
        x.patterns("1a1", 1);
        x.text("-aaaaa-aaaaaa-", 3);
        x.size(17);
        x = new Run(sentence);
        x.least(1, 1, true);
        x.patterns("1a1", 1);
        x.text(("a".repeat(63) + " ").repeat(62) + "a".repeat(32), 62 * 62 + 31);
        x.size(4000 + 62 * 62 + 31);
        x.out(4000 + 62 * 62 + 30, 'a');
        x.out(4000 + 62 * 62 + 29, '-');
        x.out(4000 + 62 * 62 + 31, -1);
    }

    private static void wordStaysAfterText() {
        Run x = new Run("(The WORD stays.)");
        x.text("a", 0);
        x.values("");
        x.least(1, 1, true);
        x.patterns("a1b", 1);
        x.word("abcab", 2);
        x.text("ab c " + Texts.TOO_LONG, 1);
        x.text("", 0);
        x.values("1001");
        x.places(1, 4);
    }

    private static void size() {
        String sentence = "How many characters OUT has.";
        Run x = new Run(sentence);
        x.size(0);
        x.text("a", 0);
        x.size(1);
        x.put("bcd");
        x.size(1);
        x.words("", 1);
        x.size(1);
        x.words("ri-ver", 1);
        x.text("river", 1);
        x.size(6);
        x.text("", 0);
        x.size(0);
        x = new Run(sentence);
        x.text("!".repeat(4000), 0);
        x.size(4000);
    }

    private static void out() {
        Run x = new Run("Character i of OUT; NONE when there is none.");
        x.out(0, -1);
        x.text("\u0001 \u00FF", 0);
        x.shown("\u0001 \u00FF");
        for (int i : EXTREMES) {
            x.out(i, -1);
        }
        x.out(3, -1);
        x.out(4000, -1);
        x.text("!", 0);
        x.out(0, '!');
        x.out(1, -1);
        x.text("", 0);
        x.out(0, -1);
    }
}
