/** The edges that promises 1 to 4 name, sentence by sentence. */
public final class SettingsEdgesTest {
    private static final String TYPE_REFUSES =
        "False, changing nothing, when n is not 1 .. 8, there would be more than 4000, or one is 0.";

    public static void main(String[] args) {
        newObject();
        lowestByteFirst();
        typeOfAWrongCount();
        typeBeyondTheFullText();
        typeOfAWrongCountIntoTheFullText();
        typeOfAZero();
        letterOrNone();
        whatWasReadStays();
        letterRefusesCharacters();
        letterRefusesNumbers();
        leastFromNowOn();
        leastRefuses();
        Check.finish();
    }

    private static void newObject() {
        String sentence = "No patterns, no told words, no WORD; an empty text, nothing in OUT.";
        Run x = new Run(sentence);
        x.count(false, 0);
        x.count(true, 0);
        x.places();
        x.values("");
        x.value(0, -1);
        x.size(0);
        x.out(0, -1);
        x.clear(false, 0);
        x.clear(true, 0);
        x = new Run(sentence);
        x.word("", -10000);
        x.values("");
        x = new Run(sentence);
        x.patterns("", 0);
        x = new Run(sentence);
        x.words("", 0);
        x = new Run(sentence);
        x.text("", 0);
        x.size(0);
    }

    private static void lowestByteFirst() {
        Run x = new Run("n characters come behind the text, the lowest byte of w first.");
        x.type(0xFEDCBA9876543241L, 1, true);
        x.type(0x8031323334353637L, 8, true);
        x.type(-1L, 8, true);
        x.type(Long.MAX_VALUE, 8, true);
        x.type(0x4342L, 2, true);
        x.text("", 0);
        x.shown("A7654321\u0080" + "\u00FF".repeat(15) + "\u007FBC");
    }

    private static void typeOfAWrongCount() {
        Run x = new Run(TYPE_REFUSES);
        long eight = Check.packed("bcdefghi");
        x.put("a");
        int[] wrong = {0, -1, -8, 9, 10, 64, 256, 257, 4001, Integer.MIN_VALUE, Integer.MIN_VALUE + 1, Integer.MAX_VALUE};
        for (int n : wrong) {
            x.type(eight, n, false);
        }
        x.type(eight, 1, true);
        x.type(eight, 8, true);
        x.text("", 0);
        x.shown("abbcdefghi");
    }

    private static void typeBeyondTheFullText() {
        String[] others = {"", "b", "bc", "bcd", "bcde", "bcdef", "bcdefg", "bcdefgh"};
        for (String more : others) {
            Run x = new Run(TYPE_REFUSES);
            x.put("#".repeat(4000 - 8) + more);
            x.type(Check.packed("ijklmnop"), 8, more.isEmpty());
            x.type(Check.packed("ijklmnop"), 8, false);
            x.type(Check.packed("qrstuvwx"), Math.min(8, 9 - more.length()), false);
            if (!more.isEmpty()) {
                x.type(Check.packed("qrstuvwx"), 8 - more.length(), true);
            }
            x.type('!', 1, false);
            x.text("", 0);
            x.size(4000);
            x.out(3999, more.isEmpty() ? 'p' : "qrstuvwx".charAt(7 - more.length()));
        }
    }

    private static void typeOfAWrongCountIntoTheFullText() {
        Run x = new Run(TYPE_REFUSES);
        x.put("#".repeat(4000));
        int[] wrong = {0, -1, -4000, 9, Integer.MIN_VALUE, Integer.MAX_VALUE};
        for (int n : wrong) {
            x.type('!', n, false);
        }
        x.text("", 0);
        x.size(4000);
        x.type('!', 1, true);
    }

    private static void typeOfAZero() {
        Run x = new Run(TYPE_REFUSES);
        x.put("a");
        for (int at = 0; at < 8; at++) {
            x.type(0x6868686868686868L & ~(255L << 8 * at), 8, false);
            x.type(0x6868686868686868L & ~(255L << 8 * at), at + 1, false);
        }
        x.type(0, 1, false);
        x.type(0, 8, false);
        x.type(0x0063L, 1, true);
        x.type(0x006564L, 2, true);
        x.text("", 0);
        x.shown("acde");
    }

    private static void letterOrNone() {
        Run x = new Run("A character stands for a letter, or for none (0).");
        x.letter('a', 0, true);
        x.word("a", -10000);
        x.word("A", 0);
        x.letter('a', 63, true);
        x.word("a", 0);
        x.letter(1, 1, true);
        x.letter(255, 63, true);
        x.words("\u0001-\u00FF", 1);
        x.word("Aa", 0);
        x.values("1");
        x.letter(255, 0, true);
        x.letter(255, 0, true);
        x.word("\u00FF", -10000);
    }

    private static void whatWasReadStays() {
        Run x = new Run("What was read before stays as it is.");
        x.least(1, 1, true);
        x.patterns("a3b", 1);
        x.words("c-d", 1);
        x.word("ab", 1);
        x.text("ab", 1);
        x.letter('a', 0, true);
        x.letter('c', 5, true);
        x.values("3");
        x.places(1);
        x.shown("a-b");
        x.count(false, 1);
        x.word("Ab", 1);
        x.values("3");
        x.word("Cd", 1);
        x.word("cd", 0);
        x.patterns("Ab", -30000);
    }

    private static void letterRefusesCharacters() {
        Run x = new Run("False, changing nothing, when c is no character, or one that never does");
        int[] wrong = {0, -1, 256, 257, 256 + 'a', -256 + 'a', Integer.MIN_VALUE, Integer.MAX_VALUE,
            32, 45, 46, 48, 49, 50, 51, 52, 53, 54, 55, 56, 57};
        for (int c : wrong) {
            x.letter(c, 9, false);
            x.letter(c, 0, false);
        }
        x.words("a-i", 1);
        x.word("ai", 0);
        x.values("1");
        for (char c : " -.0123456789".toCharArray()) {
            x.word("a" + c, -10001);
        }
    }

    private static void letterRefusesNumbers() {
        Run x = new Run("or letter is not 0 .. 63.");
        int[] wrong = {-1, 64, 65, 127, 256, 257, Integer.MIN_VALUE, Integer.MAX_VALUE};
        x.words("a-b", 1);
        for (int letter : wrong) {
            x.letter('a', letter, false);
            x.letter('!', letter, false);
        }
        x.word("ab", 0);
        x.values("1");
        x.word("a!", -10001);
        x.letter('!', 63, true);
        x.letter('a', 0, true);
        x.word("!a", -10001);
    }

    private static void leastFromNowOn() {
        Run x = new Run("LEFT and RIGHT from now on.");
        x.patterns("1a1", 1);
        x.word("aaaaa", 1);
        x.text("aaaaa", 1);
        x.least(1, 1, true);
        x.places(2);
        x.shown("aa-aaa");
        x.word("aaaaa", 4);
        x.least(1, 3, true);
        x.word("aaaaa", 2);
        x.places(1, 2);
        x.least(3, 1, true);
        x.word("aaaaa", 2);
        x.places(3, 4);
        x.text("aaaaa", 2);
        x.shown("aaa-a-a");
    }

    private static void leastRefuses() {
        Run x = new Run("False, changing nothing, when one is not 1 .. 63.");
        x.patterns("1a1", 1);
        int[] wrong = {0, -1, 64, 65, 256, Integer.MIN_VALUE, Integer.MAX_VALUE};
        for (int n : wrong) {
            x.least(n, 1, false);
            x.least(1, n, false);
            x.least(n, n, false);
        }
        x.word("aaaaaa", 2);
        x.places(2, 3);
        x.least(63, 63, true);
        x.word("a".repeat(63), 0);
        x.least(62, 1, true);
        x.word("a".repeat(63), 1);
        x.places(62);
        x.least(1, 62, true);
        x.word("a".repeat(63), 1);
        x.places(1);
        x.least(63, 1, true);
        x.word("a".repeat(63), 0);
        x.least(1, 63, true);
        x.word("a".repeat(63), 0);
    }
}
