import java.util.Random;

/** All promises together: runs of calls, drawn from fixed seeds, held against PlainBreaker. */
public final class RandomRunsTest {
    private static final int RUNS = 1500;
    private static final int CALLS = 512;

    private final Random random;
    private final String signs;
    private final PlainBreaker.Tally tally;
    private WordBreaker x = new WordBreaker();
    private PlainBreaker y = new PlainBreaker();
    private int calls = 0;

    private RandomRunsTest(long seed, PlainBreaker.Tally tally) {
        this.random = new Random(seed);
        this.tally = tally;
        String[] choices = {"ab", "abcAB", "abcdefghijklmnopqrstuvwxyz", "a!\u00C8\u00E4b", "aAbB\u0001\u00FF"};
        this.signs = choices[(int) (seed % choices.length)];
    }

    public static void main(String[] args) {
        PlainBreaker.Tally tally = new PlainBreaker.Tally();
        for (int seed = 0; seed < RUNS && Check.faults() == 0; seed++) {
            new RandomRunsTest(seed, tally).run(seed);
        }
        for (int fault = 0; fault <= 3; fault++) {
            Check.due("fault " + fault + " was met", tally.has(fault), true);
        }
        Check.finish();
    }

    private void run(int seed) {
        while (calls < CALLS && Check.faults() == 0) {
            step();
        }
        if (Check.faults() != 0) {
            System.out.println("in run " + seed + ", call " + calls);
        }
    }

    private int below(int n) {
        return random.nextInt(n);
    }

    private void step() {
        switch (below(13)) {
            case 0 -> settings();
            case 1, 2, 3 -> {
                put(entries(true));
                same("patterns()", x.patterns(), y.patterns());
                counts();
            }
            case 4, 5 -> {
                put(entries(false));
                same("words()", x.words(), y.words());
                counts();
            }
            case 6, 7, 8 -> {
                put(below(9) == 0 ? entries(below(2) == 0) : row(1 + below(below(6) == 0 ? 70 : 12)));
                same("word()", x.word(), y.word());
                look();
            }
            case 9, 10 -> {
                put(sentence());
                same("text()", x.text(), y.text());
                lookAtOut();
            }
            case 11 -> look();
            default -> {
                if (below(6) == 0) {
                    boolean words = below(2) == 0;
                    same("clear", x.clear(words), y.clear(words));
                    counts();
                }
            }
        }
    }

    private void settings() {
        if (below(2) == 0) {
            int l = below(5) == 0 ? below(70) - 3 : 1 + below(3);
            int r = below(5) == 0 ? below(70) - 3 : 1 + below(3);
            same("least", x.least(l, r) ? 1 : 0, y.least(l, r) ? 1 : 0);
        } else {
            int c = below(4) == 0 ? below(270) - 5 : signs.charAt(below(signs.length()));
            int letter = below(4) == 0 ? below(70) - 3 : 1 + below(4);
            same("letter(" + c + ")", x.letter(c, letter) ? 1 : 0, y.letter(c, letter) ? 1 : 0);
        }
    }

    private void put(String text) {
        int i = 0;
        while (i < text.length() && calls < CALLS) {
            int n = Math.min(text.length() - i, 1 + below(8));
            n = below(3) == 0 ? n : Math.min(text.length() - i, 8);
            long w = Check.packed(text.substring(i, i + n));
            if (n < 8 && below(2) == 0) {
                w |= random.nextLong() << 8 * n;
            }
            same("type", x.type(w, n) ? 1 : 0, y.type(w, n) ? 1 : 0);
            i += n;
        }
    }

    private char sign() {
        return signs.charAt(below(signs.length()));
    }

    private String row(int n) {
        StringBuilder row = new StringBuilder();
        for (int i = 0; i < n; i++) {
            row.append(sign());
        }
        return row.toString();
    }

    private String entries(boolean patterns) {
        StringBuilder all = new StringBuilder();
        int n = below(6);
        for (int i = 0; i < n; i++) {
            all.append(" ".repeat(below(8) == 0 ? 2 : i == 0 ? 0 : 1));
            all.append(patterns ? pattern() : told());
        }
        all.append(" ".repeat(below(4) / 3));
        if (all.length() > 0 && below(5) == 0) {
            all.setCharAt(below(all.length()), " .-19a!b\u00C8".charAt(below(9)));
        }
        return all.toString();
    }

    private int entryLength() {
        return below(40) == 0 ? 58 + below(10) : 1 + below(6);
    }

    private String pattern() {
        StringBuilder made = new StringBuilder(below(5) == 0 ? "." : "");
        int n = entryLength();
        for (int i = 0; i < n; i++) {
            made.append(digit()).append(sign());
        }
        return made.append(digit()).append(below(5) == 0 ? "." : "").toString();
    }

    private String digit() {
        return below(2) == 0 ? "" : String.valueOf(below(10));
    }

    private String told() {
        StringBuilder made = new StringBuilder();
        int n = entryLength();
        for (int i = 0; i < n; i++) {
            made.append(i > 0 && below(3) == 0 ? "-" : "").append(sign());
        }
        return made.toString();
    }

    private String sentence() {
        StringBuilder made = new StringBuilder();
        int n = below(8);
        for (int i = 0; i < n; i++) {
            made.append(row(entryLength()));
            made.append(" ,.-1\u00FE".charAt(below(6)));
        }
        return made.toString();
    }

    private void counts() {
        same("count(false)", x.count(false), y.count(false));
        same("count(true)", x.count(true), y.count(true));
    }

    private void look() {
        int n = 2 + below(8);
        for (int i = -1; i < n && calls < CALLS; i++) {
            same("value(" + i + ")", x.value(i), y.value(i));
            same("place(" + i + ")", x.place(i), y.place(i));
        }
        int far = below(70) - 2;
        same("value(" + far + ")", x.value(far), y.value(far));
        same("place(" + far + ")", x.place(far), y.place(far));
    }

    private void lookAtOut() {
        same("size()", x.size(), y.size());
        int from = below(4) == 0 ? -1 : below(Math.max(1, x.size()));
        for (int i = from; i < from + 12 && i < x.size() + 2 && calls < CALLS; i++) {
            same("out(" + i + ")", x.out(i), y.out(i));
        }
    }

    private void same(String call, int got, int want) {
        calls++;
        tally.see(want < -1 ? want : 0);
        Check.due(call, got, want);
    }
}
