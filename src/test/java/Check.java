import java.nio.charset.StandardCharsets;

/** What the tests share: typing of whole texts, and answers held against those that are due. */
final class Check {
    private static int wrong = 0;

    private Check() {
    }

    static void due(String call, long got, long want) {
        if (got != want) {
            wrong++;
            System.out.println(call + " answered " + got + ", due is " + want);
        }
    }

    static void due(String call, boolean got, boolean want) {
        due(call, got ? 1 : 0, want ? 1 : 0);
    }

    static void due(String call, String got, String want) {
        if (!got.equals(want)) {
            wrong++;
            System.out.println(call + " answered \"" + got + "\", due is \"" + want + "\"");
        }
    }

    static int faults() {
        return wrong;
    }

    static void finish() {
        System.out.println(wrong == 0 ? "all answers are as due" : wrong + " answers are not as due");
        if (wrong != 0) {
            System.exit(1);
        }
    }

    static long packed(String eightAtMost) {
        byte[] bytes = eightAtMost.getBytes(StandardCharsets.ISO_8859_1);
        long w = 0;
        for (int i = bytes.length - 1; i >= 0; i--) {
            w = w << 8 | bytes[i] & 255;
        }
        return w;
    }

    static void put(WordBreaker x, String text) {
        for (int i = 0; i < text.length(); i += 8) {
            String part = text.substring(i, Math.min(text.length(), i + 8));
            due("type(\"" + part + "\")", x.type(packed(part), part.length()), true);
        }
    }

    static int patterns(WordBreaker x, String text) {
        put(x, text);
        return x.patterns();
    }

    static int words(WordBreaker x, String text) {
        put(x, text);
        return x.words();
    }

    static int word(WordBreaker x, String text) {
        put(x, text);
        return x.word();
    }

    static int text(WordBreaker x, String text) {
        put(x, text);
        return x.text();
    }

    static void duePatterns(WordBreaker x, String text, int want) {
        due("patterns() of \"" + text + "\"", patterns(x, text), want);
    }

    static void dueWords(WordBreaker x, String text, int want) {
        due("words() of \"" + text + "\"", words(x, text), want);
    }

    static void dueWord(WordBreaker x, String text, int want) {
        due("word() of \"" + text + "\"", word(x, text), want);
    }

    /** The values of the WORD one behind the other, as digits. */
    static void dueValues(WordBreaker x, String want) {
        StringBuilder got = new StringBuilder();
        for (int k = 1; k <= 64 && x.value(k) != WordBreaker.NONE; k++) {
            got.append(x.value(k));
        }
        due("values of the WORD", got.toString(), want);
    }

    static void duePlaces(WordBreaker x, String want) {
        StringBuilder got = new StringBuilder();
        for (int i = 0; i <= 64 && x.place(i) != WordBreaker.NONE; i++) {
            got.append(i == 0 ? "" : " ").append(x.place(i));
        }
        due("places of the WORD", got.toString(), want);
    }

    static void dueText(WordBreaker x, String text, String want) {
        int hyphens = text(x, text);
        due("text() of \"" + text + "\"", hyphens, want.length() - text.length());
        dueOut(x, want);
    }

    static void dueOut(WordBreaker x, String want) {
        due("OUT", out(x), want);
        due("size()", x.size(), want.length());
        due("out(size)", x.out(want.length()), WordBreaker.NONE);
    }

    static String out(WordBreaker x) {
        StringBuilder got = new StringBuilder();
        for (int i = 0; i < x.size(); i++) {
            got.append((char) x.out(i));
        }
        return got.toString();
    }
}
