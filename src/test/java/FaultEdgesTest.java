/** The edges that the section "Terms" names of faults, sentence by sentence. */
public final class FaultEdgesTest {
    public static void main(String[] args) {
        firstFault();
        nothingComesOfPatterns();
        nothingComesOfToldWords();
        miswrittenPatterns();
        miswrittenToldWords();
        moreMustCome();
        patternWithoutALetter();
        tooLong();
        thereAlready();
        thereAlreadyInTheText();
        tooManyPatterns();
        tooManyToldWords();
        tooManyLettersOfPatterns();
        tooManyLettersOfToldWords();
        eachForThemselves();
        orderOfFaults();
        orderOfFaultsWhenFull();
        inPlaceOfTheFormer();
        inPlaceOfTheFormerWhenFull();
        answers();
        answersFarBehind();
        Check.finish();
    }

    private static void firstFault() {
        Run x = new Run("The first FAULT counts");
        x.patterns("a", 1);
        x.patterns("b! !", -10001);
        x.patterns("b a !", -30002);
        x.patterns("b ! a", -10002);
        x.patterns("a " + Texts.TOO_LONG, -30000);
        x.patterns(Texts.TOO_LONG + " a", -20000);
        x.patterns(Texts.TOO_LONG + " !", -20000);
        x.patterns("! " + Texts.TOO_LONG, -10000);
        x.patterns("b b a", -30002);
        x.words("a- -", -10002);
        x.words(Texts.TOO_LONG + " -", -20000);
        x.words("a - " + Texts.TOO_LONG, -10002);
    }

    private static void nothingComesOfPatterns() {
        Run x = new Run("and nothing comes of the text");
        x.patterns("a1b", 1);
        x.patterns("b1c .b1c. a5b", -30010);
        x.patterns("b1c .b1c. !", -10010);
        x.patterns("b1c .b1c. " + Texts.TOO_LONG, -20010);
        x.count(false, 1);
        x.word("abc", 0);
        x.values("10");
        x.word("bc", 0);
        x.values("0");
        x.patterns("b1c .b2c.", 2);
        x.word("bc", 0);
        x.values("2");
    }

    private static void nothingComesOfToldWords() {
        Run x = new Run("and nothing comes of the text");
        x.words("a-bc", 1);
        x.words("ab-c d-e !", -10009);
        x.words("ab-c d-e " + Texts.TOO_LONG, -20009);
        x.words("ab-c d-e -", -10009);
        x.count(true, 1);
        x.word("abc", 0);
        x.values("10");
        x.word("de", 0);
        x.values("0");
        x.words("d-e", 1);
        x.word("de", 0);
        x.values("1");
    }

    private static void miswrittenPatterns() {
        Run x = new Run("1 it is not written so: at the first character that can't be there");
        String[] texts = {"!", "-", "a-b", "a!", "..a", "a..", ".a..", "a.b", "a. .b.c", ".1.a", "a1.b", " a b!!",
            "\u0001", "a\u00FF", "11", ".!", "1!", "a!1"};
        int[] at = {0, 0, 1, 1, 1, 2, 3, 2, 6, 2, 3, 4, 0, 1, 1, 1, 1, 1};
        for (int i = 0; i < texts.length; i++) {
            x.patterns(texts[i], -10000 - at[i]);
        }
        x.count(false, 0);
    }

    private static void miswrittenToldWords() {
        Run x = new Run("1 it is not written so: at the first character that can't be there");
        String[] texts = {"!", "-", "-a", "a--b", "a-b--c", "a-!", "a.", ".a", "1a", "a1b", "a b- c", " a b!!", "a\u00FF"};
        int[] at = {0, 0, 0, 2, 4, 2, 1, 0, 0, 1, 4, 4, 1};
        for (int i = 0; i < texts.length; i++) {
            x.words(texts[i], -10000 - at[i]);
        }
        x.count(true, 0);
    }

    private static void moreMustCome() {
        Run x = new Run("or the length of the text if more must come");
        x.patterns(".", -10001);
        x.patterns("7", -10001);
        x.patterns(".7", -10002);
        x.patterns("a  .", -10004);
        x.patterns("a b. .0", -10007);
        x.words("a-", -10002);
        x.words("a-b-", -10004);
        x.words("ab  c-", -10006);
        x.count(false, 0);
        x.count(true, 0);
    }

    private static void patternWithoutALetter() {
        Run x = new Run("(a pattern without a letter is such: at the space behind it)");
        x.patterns(". ", -10001);
        x.patterns("7 ", -10001);
        x.patterns(".7 ", -10002);
        x.patterns(". a", -10001);
        x.patterns("a 7  b", -10003);
        x.patterns("  .0   ", -10004);
        x.count(false, 0);
    }

    private static void tooLong() {
        Run x = new Run("2 at the first character of a pattern or told word: it has more than 63 letters");
        x.patterns(Texts.TOO_LONG, -20000);
        x.patterns("  a ." + Texts.TOO_LONG + ". b", -20004);
        x.patterns("9" + Texts.TOO_LONG + "9", -20000);
        x.patterns(Texts.letters(200), -20000);
        x.words(Texts.TOO_LONG, -20000);
        x.words("  a " + Texts.hyphened(Texts.TOO_LONG), -20004);
        x.words(Texts.letters(200) + " a", -20000);
        x.patterns("  ." + Texts.LONGEST + "9.", 1);
        x.words("  " + Texts.hyphened(Texts.LONGEST), 1);
    }

    private static void thereAlready() {
        Run x = new Run("3 there: the pattern's letters, begin and end are there already, in the text or from before");
        x.patterns("a1b", 1);
        x.patterns("ab", -30000);
        x.patterns("  AB", -30002);
        x.patterns("c 9a9b9", -30002);
        x.patterns(".ab", 1);
        x.patterns("ab.", 1);
        x.patterns(".ab.", 1);
        x.patterns(".a2b", -30000);
        x.patterns("a2b.", -30000);
        x.patterns(".a2b.", -30000);
        x.patterns("a b abc ba", 4);
        x.count(false, 8);
        x.patterns("b", -30000);
        x.clear(false, 8);
        x.patterns("b", 1);
        x.letter('#', 2, true);
        x.patterns("#", -30000);
    }

    private static void thereAlreadyInTheText() {
        Run x = new Run("3 there: the pattern's letters, begin and end are there already, in the text or from before");
        x.patterns("a a", -30002);
        x.patterns("a .a a. .a. 1a1", -30012);
        x.patterns(".1a b .a", -30006);
        x.patterns(Texts.LONGEST + " " + Texts.LONGEST + "1", -30064);
        x.count(false, 0);
        x.patterns("a .a a. .a.", 4);
        x.words("a a", 2);
    }

    private static void tooManyPatterns() {
        String sentence = "4 there: there would be more than 1000 patterns";
        String all = Texts.thousandPatterns();
        Run x = new Run(sentence);
        x.patterns(all + " q", -40001 - all.length());
        x.count(false, 0);
        x = new Run(sentence);
        x.patterns(all, 1000);
        x.patterns(" .q. r", -40001);
        x.count(false, 1000);
        x.patterns("", 0);
        x.patterns("  ", 0);
        x.clear(false, 1000);
        x.patterns("q r", 2);
    }

    private static void tooManyToldWords() {
        Run x = new Run("(300 told words)");
        String all = Texts.threeHundredWords();
        x.words(all + " q", -41201);
        x.count(true, 0);
        x.words(all, 300);
        x.words("  q r", -40002);
        x.count(true, 300);
        x.words("", 0);
        x.clear(true, 300);
        x.words("q r", 2);
    }

    private static void tooManyLettersOfPatterns() {
        Run x = Run.beyondTheLastCall("or more than 8000 letters in them all");
        for (int i = 0; i < 126; i++) {
            x.patterns(Texts.different(i, 63), 1);
        }
        x.patterns(Texts.different(126, 62) + " 8z", -40063);
        x.patterns(Texts.different(126, 63), -40000);
        x.patterns(Texts.different(126, 61) + "7 8z", 2);
        x.patterns(" y", -40001);
        x.count(false, 128);
        x.word(Texts.different(126, 61) + "z", 0);
        x.value(61, 8);
        x.clear(false, 128);
        x.patterns("y", 1);
    }

    private static void tooManyLettersOfToldWords() {
        Run x = Run.beyondTheLastCall("or more than 8000 letters in them all");
        for (int i = 0; i < 126; i++) {
            x.words(Texts.different(i, 63), 1);
        }
        x.words(Texts.different(126, 62) + " z", -40063);
        x.words(Texts.different(126, 63), -40000);
        x.words(Texts.different(126, 62), 1);
        x.words(" y", -40001);
        x.words(Texts.hyphened(Texts.different(126, 62)), 1);
        x.count(true, 127);
        x.word(Texts.different(126, 62), 58);
        x.clear(true, 127);
        x.words("y", 1);
    }

    private static void eachForThemselves() {
        String sentence = "(Of patterns and of told words, each for themselves.)";
        Run x = new Run(sentence);
        x.words(Texts.threeHundredWords(), 300);
        x.patterns("aax q", 2);
        x.words("q", -40000);
        x.words("aax", 1);
        x = new Run(sentence);
        x.patterns(Texts.thousandPatterns(), 1000);
        x.words("ab q", 2);
        x.patterns("q", -40000);
        x.count(true, 2);
    }

    private static void orderOfFaults() {
        Run x = new Run("when all of it is read");
        x.patterns("a", 1);
        x.patterns(Texts.TOO_LONG + "!", -10064);
        x.patterns("." + Texts.TOO_LONG + "11", -10066);
        x.patterns(" " + Texts.TOO_LONG + ".a", -10066);
        x.words(Texts.TOO_LONG + "-", -10065);
        x.words(Texts.TOO_LONG + "- a", -10065);
        x.words(Texts.TOO_LONG + "1", -10064);
        x.patterns("a!", -10001);
        x.patterns("a11", -10002);
    }

    private static void orderOfFaultsWhenFull() {
        Run x = new Run("(2 before 3 before 4");
        x.patterns(Texts.thousandPatterns(), 1000);
        x.patterns("q", -40000);
        x.patterns("ab", -30000);
        x.patterns(".a7b", -30000);
        x.patterns("q!", -10001);
        x.patterns("q !", -40000);
        x.patterns(Texts.TOO_LONG, -20000);
        x.patterns(Texts.LONGEST, -40000);
        x.words(Texts.threeHundredWords().substring(0, 80), 20);
        x.words(Texts.TOO_LONG, -20000);
    }

    private static void inPlaceOfTheFormer() {
        Run x = new Run("A told word that is there already takes the place of the former.");
        x.words("a-bc x", 2);
        x.words("AB-C", 1);
        x.count(true, 2);
        x.word("abc", 0);
        x.values("01");
        x.words("abc", 1);
        x.word("abc", 0);
        x.values("00");
        x.words("a-b-c", 1);
        x.word("abc", 0);
        x.values("11");
        x.count(true, 2);
    }

    private static void inPlaceOfTheFormerWhenFull() {
        Run x = new Run("A told word that is there already takes the place of the former.");
        x.words(Texts.threeHundredWords(), 300);
        x.words("aa-x l-nx", 2);
        x.count(true, 300);
        x.word("aax", 0);
        x.values("01");
        x.word("lnx", 0);
        x.values("10");
        x.words("a-ax q", -40005);
        x.word("aax", 0);
        x.values("01");
    }

    private static void answers() {
        Run x = new Run("Answers for a fault: - 10000 times the fault, less the place.");
        x.patterns("a", 1);
        x.patterns("!", -10000);
        x.patterns("b!", -10001);
        x.patterns(Texts.TOO_LONG, -20000);
        x.patterns(" " + Texts.TOO_LONG, -20001);
        x.patterns("a", -30000);
        x.patterns(" a", -30001);
        x.words(Texts.threeHundredWords(), 300);
        x.words("q", -40000);
        x.words(" q", -40001);
    }

    private static void answersFarBehind() {
        String sentence = "Answers for a fault: - 10000 times the fault, less the place.";
        Run x = new Run(sentence);
        x.patterns(" ".repeat(3999) + "!", -13999);
        x = new Run(sentence);
        x.patterns(" ".repeat(3999) + ".", -14000);
        x = new Run(sentence);
        x.words(" ".repeat(3998) + "a-", -14000);
        x = new Run(sentence);
        x.patterns(" ".repeat(3936) + Texts.TOO_LONG, -23936);
        x = new Run(sentence);
        x.patterns("a" + " ".repeat(3998) + "a", -33999);
        x = new Run(sentence);
        x.patterns(Texts.thousandPatterns() + " ".repeat(675) + "q", -43999);
        x = new Run(sentence);
        x.words(Texts.threeHundredWords() + " ".repeat(2799) + "q", -43999);
    }
}
