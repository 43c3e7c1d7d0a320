/** Promise 2. */
public final class TypeTest {
    public static void main(String[] args) {
        lowestByteFirst();
        higherBytesAreLeftOut();
        wrongCounts();
        zeros();
        fullText();
        Check.finish();
    }

    private static void lowestByteFirst() {
        WordBreaker x = new WordBreaker();
        Check.due("type", x.type(0x2148474645444342L, 8), true);
        Check.due("type", x.type(0xFF80L, 2), true);
        x.text();
        Check.dueOut(x, "BCDEFGH!\u0080\u00FF");
        Check.due("type", x.type(-1L, 8), true);
        x.text();
        Check.dueOut(x, "\u00FF".repeat(8));
    }

    private static void higherBytesAreLeftOut() {
        WordBreaker x = new WordBreaker();
        Check.due("type", x.type(0x6463006261L, 2), true);
        Check.due("type", x.type(0x7FFFFFFFFFFFFF63L, 1), true);
        x.text();
        Check.dueOut(x, "abc");
    }

    private static void wrongCounts() {
        WordBreaker x = new WordBreaker();
        Check.put(x, "a");
        int[] wrong = {0, -1, 9, 10, 16, 64, Integer.MIN_VALUE, Integer.MAX_VALUE};
        for (int n : wrong) {
            Check.due("type(.., " + n + ")", x.type(0x6161616161616161L, n), false);
        }
        x.text();
        Check.dueOut(x, "a");
    }

    private static void zeros() {
        WordBreaker x = new WordBreaker();
        for (int n = 1; n <= 8; n++) {
            for (int at = 0; at < 8; at++) {
                long w = 0x6161616161616161L & ~(255L << 8 * at);
                Check.due("type(" + w + ", " + n + ")", x.type(w, n), at >= n);
                x.text();
                Check.due("size()", x.size(), at >= n ? n : 0);
            }
        }
    }

    private static void fullText() {
        WordBreaker x = new WordBreaker();
        Check.put(x, "a ".repeat(1998));
        Check.due("type to 4004", x.type(Check.packed("bcdefghi"), 8), false);
        Check.due("type to 4001", x.type(Check.packed("bcdef"), 5), false);
        Check.due("type to 3999", x.type(Check.packed("bcd"), 3), true);
        Check.due("type to 4001", x.type(Check.packed("ef"), 2), false);
        Check.due("type to 4000", x.type(Check.packed("e"), 1), true);
        Check.due("type to 4001", x.type(Check.packed("f"), 1), false);
        x.text();
        Check.due("size()", x.size(), 4000);
        Check.due("OUT", Check.out(x), "a ".repeat(1998) + "bcde");
        Check.due("type into the empty text", x.type(Check.packed("abcdefgh"), 8), true);
    }
}
