/** Texts that lie at the edges that the document names. */
final class Texts {
    /** A word of 63 letters. */
    static final String LONGEST = letters(63);
    /** A word of 64 letters. */
    static final String TOO_LONG = letters(64);

    private Texts() {
    }

    /** As many letters: a, b, .. z, and from the begin again. */
    static String letters(int n) {
        StringBuilder made = new StringBuilder();
        for (int i = 0; i < n; i++) {
            made.append((char) ('a' + i % 26));
        }
        return made.toString();
    }

    static String hyphened(String word) {
        return String.join("-", word.split(""));
    }

    /** 1000 different patterns in 3324 characters: all of two letters, and some of them at the begin. */
    static String thousandPatterns() {
        StringBuilder all = new StringBuilder();
        for (int i = 0; i < 1000; i++) {
            all.append(i < 676 ? "" : ".").append(pair(i % 676)).append(' ');
        }
        return all.toString();
    }

    /** 300 different told words of three letters, each with a space behind it. */
    static String threeHundredWords() {
        StringBuilder all = new StringBuilder();
        for (int i = 0; i < 300; i++) {
            all.append(pair(i)).append("x ");
        }
        return all.toString();
    }

    /** The i-th of many different rows of as many letters. */
    static String different(int i, int length) {
        return (pair(i) + letters(length)).substring(0, length);
    }

    private static String pair(int i) {
        return "" + (char) ('a' + i / 26) + (char) ('a' + i % 26);
    }
}
