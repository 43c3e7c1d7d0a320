/** Promises 12, 13 and 14. */
public final class TextTest {
    private static final String LONGEST = "ab".repeat(31) + "a";

    public static void main(String[] args) {
        ordinary();
        allCharactersStay();
        inPlaceOfWhatWasThere();
        longWords();
        wordStays();
        edgesOfOut();
        mostHyphens();
        Check.finish();
    }

    private static void ordinary() {
        WordBreaker x = new WordBreaker();
        Check.duePatterns(x, "n1t 1ti", 2);
        Check.dueWords(x, "ri-ver", 1);
        Check.dueText(x, "Mention a River, mention!", "Men-tion a Ri-ver, men-tion!");
        Check.dueText(x, "river-river 12river3", "ri-ver-ri-ver 12ri-ver3");
        Check.dueText(x, "river.rivers", "ri-ver.rivers");
        Check.dueText(x, "men\u00E4tion", "men\u00E4tion");
        Check.dueText(x, "  mention", "  men-tion");
        Check.dueText(x, "mention  ", "men-tion  ");
    }

    private static void allCharactersStay() {
        StringBuilder all = new StringBuilder();
        for (char c = 1; c < 256; c++) {
            all.append(c);
        }
        Check.dueText(new WordBreaker(), all.toString(), all.toString());
    }

    private static void inPlaceOfWhatWasThere() {
        WordBreaker x = new WordBreaker();
        Check.dueText(x, "a longer text", "a longer text");
        Check.duePatterns(x, "a", 1);
        Check.dueWord(x, "a", 0);
        Check.dueOut(x, "a longer text");
        Check.dueText(x, "short", "short");
        Check.due("out(5)", x.out(5), -1);
        Check.due("text() of a text that is used up", x.text(), 0);
        Check.dueOut(x, "");
        Check.due("out(0)", x.out(0), -1);
    }

    private static void longWords() {
        WordBreaker x = new WordBreaker();
        Check.duePatterns(x, "a1b .ab3a", 2);
        String longest = "ab-" + "a-b".repeat(29) + "aba";
        Check.dueText(x, LONGEST, longest);
        Check.dueText(x, LONGEST + "b", LONGEST + "b");
        Check.dueText(x, LONGEST + LONGEST, LONGEST + LONGEST);
        Check.dueText(x, LONGEST + "b cabab", LONGEST + "b ca-bab");
        Check.dueText(x, "abaaba " + LONGEST + "b ababa", "ab-aaba " + LONGEST + "b ab-aba");
    }

    private static void wordStays() {
        WordBreaker x = new WordBreaker();
        x.least(1, 1);
        Check.duePatterns(x, "a1b", 1);
        Check.dueWord(x, "abcab", 2);
        Check.dueText(x, "cab ab c", "ca-b a-b c");
        Check.dueValues(x, "1001");
        Check.duePlaces(x, "1 4");
    }

    private static void edgesOfOut() {
        WordBreaker x = new WordBreaker();
        Check.dueText(x, "x\u00FFz", "x\u00FFz");
        Check.due("out(0)", x.out(0), 'x');
        Check.due("out(1)", x.out(1), 255);
        Check.due("out(2)", x.out(2), 'z');
        int[] outside = {-1, 3, 4, 4000, 8000, Integer.MIN_VALUE, Integer.MAX_VALUE};
        for (int i : outside) {
            Check.due("out(" + i + ")", x.out(i), -1);
        }
        Check.due("size()", x.size(), 3);
    }

    private static void mostHyphens() {
        WordBreaker x = new WordBreaker();
        x.least(1, 1);
        Check.duePatterns(x, "1a1 1b1", 2);
        String line = LONGEST + " ";
        Check.put(x, line.repeat(62) + LONGEST.substring(0, 32));
        Check.due("text()", x.text(), 62 * 62 + 31);
        Check.due("size()", x.size(), 4000 + 62 * 62 + 31);
        String hyphened = LONGEST.replace("", "-").substring(1, 126) + " ";
        Check.due("OUT", Check.out(x), hyphened.repeat(62) + hyphened.substring(0, 63));
    }
}
