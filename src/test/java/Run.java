/**
 * One object and the sentence of the document that it is held against. Its calls are counted, since
 * the document leaves free what an object answers after its 512th call.
 */
final class Run {
    private static final int MOST_CALLS = 512;

    private final String sentence;
    private final int mostCalls;
    private final WordBreaker x = new WordBreaker();
    private int calls = 0;

    private Run(String sentence, int mostCalls) {
        this.sentence = sentence;
        this.mostCalls = mostCalls;
    }

    Run(String sentence) {
        this(sentence, MOST_CALLS);
    }

    /** For what can't be reached in 512 calls, and should hold none the less. */
    static Run beyondTheLastCall(String sentence) {
        return new Run(sentence, Integer.MAX_VALUE);
    }

    int calls() {
        return calls;
    }

    void type(long w, int n, boolean want) {
        due("type(" + w + ", " + n + ")", x.type(w, n) ? 1 : 0, want ? 1 : 0);
    }

    void put(String text) {
        for (int i = 0; i < text.length(); i += 8) {
            String part = text.substring(i, Math.min(text.length(), i + 8));
            type(Check.packed(part), part.length(), true);
        }
    }

    void letter(int c, int letter, boolean want) {
        due("letter(" + c + ", " + letter + ")", x.letter(c, letter) ? 1 : 0, want ? 1 : 0);
    }

    void least(int left, int right, boolean want) {
        due("least(" + left + ", " + right + ")", x.least(left, right) ? 1 : 0, want ? 1 : 0);
    }

    void patterns(String text, int want) {
        put(text);
        due("patterns() of \"" + text + "\"", x.patterns(), want);
    }

    void words(String text, int want) {
        put(text);
        due("words() of \"" + text + "\"", x.words(), want);
    }

    void clear(boolean words, int want) {
        due("clear(" + words + ")", x.clear(words), want);
    }

    void count(boolean words, int want) {
        due("count(" + words + ")", x.count(words), want);
    }

    void word(String text, int want) {
        put(text);
        due("word() of \"" + text + "\"", x.word(), want);
    }

    void place(int i, int want) {
        due("place(" + i + ")", x.place(i), want);
    }

    /** These places and no more. */
    void places(int... want) {
        for (int i = 0; i < want.length; i++) {
            place(i, want[i]);
        }
        place(want.length, WordBreaker.NONE);
    }

    void value(int k, int want) {
        due("value(" + k + ")", x.value(k), want);
    }

    /** A digit for each place, and no more places. */
    void values(String want) {
        for (int k = 1; k <= want.length(); k++) {
            value(k, want.charAt(k - 1) - '0');
        }
        value(want.length() + 1, WordBreaker.NONE);
    }

    void text(String text, int want) {
        put(text);
        due("text() of \"" + text + "\"", x.text(), want);
    }

    void size(int want) {
        due("size()", x.size(), want);
    }

    void out(int i, int want) {
        due("out(" + i + ")", x.out(i), want);
    }

    /** These characters are OUT, and no more. */
    void shown(String want) {
        size(want.length());
        for (int i = 0; i < want.length(); i++) {
            out(i, want.charAt(i));
        }
        out(want.length(), WordBreaker.NONE);
    }

    private void due(String call, long got, long want) {
        calls++;
        if (calls > mostCalls) {
            Check.due("[" + sentence + "] is tested with too many calls: one more", calls, mostCalls);
        }
        Check.due("[" + sentence + "] call " + calls + ": " + call, got, want);
    }
}
