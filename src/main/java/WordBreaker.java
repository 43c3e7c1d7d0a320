import java.util.Arrays;

/** Where words may be broken, by patterns of letters and by words that are told whole. */
public final class WordBreaker {
    public static final int NONE = -1;

    private static final int MOST_TYPED = 4000;
    private static final int MOST_AT_ONCE = 8;
    // A word of n letters has n - 1 places, so hyphens never double a text.
    private static final int MOST_SHOWN = 2 * MOST_TYPED;
    private static final int CHARACTERS = 256;
    private static final int GREATEST_LETTER = 63;
    private static final int LONGEST = 63;
    private static final int MOST_PATTERNS = 1000;
    private static final int MOST_TOLD_WORDS = 300;
    private static final int MOST_KEPT_LETTERS = 8000;

    private static final int NO_FAULT = 0;
    private static final int MISWRITTEN = 1;
    private static final int TOO_LONG = 2;
    private static final int THERE_ALREADY = 3;
    private static final int TOO_MANY = 4;
    private static final int FAULT_STEP = 10000;

    private static final int AT_BEGIN = 1;
    private static final int AT_END = 2;

    private final Row letterOf;
    private final Row typed;
    private final Row shown;
    private final Shelf patternShelf;
    private final Shelf toldShelf;
    private final Entry entry;
    private final BrokenWord kept;
    private final BrokenWord passing;
    private int left;
    private int right;

    public WordBreaker() {
        letterOf = firstLetters();
        typed = new Row(MOST_TYPED);
        shown = new Row(MOST_SHOWN);
        patternShelf = new Shelf(MOST_PATTERNS);
        toldShelf = new Shelf(MOST_TOLD_WORDS);
        entry = new Entry();
        kept = new BrokenWord();
        passing = new BrokenWord();
        left = 2;
        right = 3;
    }

    public boolean type(long w, int n) {
        if (n < 1 || n > MOST_AT_ONCE || typed.used > MOST_TYPED - n || hasZero(w, n)) {
            return false;
        }
        for (int i = 0; i < n; i++) {
            typed.add(byteOf(w, i));
        }
        return true;
    }

    public boolean letter(int c, int letter) {
        if (c < 1 || c >= CHARACTERS || neverALetter(c)) {
            return false;
        }
        if (letter < 0 || letter > GREATEST_LETTER) {
            return false;
        }
        letterOf.set(c, letter);
        return true;
    }

    public boolean least(int left, int right) {
        if (left < 1 || left > LONGEST || right < 1 || right > LONGEST) {
            return false;
        }
        this.left = left;
        this.right = right;
        return true;
    }

    public int patterns() {
        int answer = takeIn(patternShelf, false);
        typed.cut(0);
        return answer;
    }

    public int words() {
        int answer = takeIn(toldShelf, true);
        if (answer > 0) {
            retell();
        }
        typed.cut(0);
        return answer;
    }

    public int clear(boolean words) {
        Shelf shelf = words ? toldShelf : patternShelf;
        int before = shelf.held;
        shelf.cutTo(0);
        return before;
    }

    public int count(boolean words) {
        return words ? toldShelf.held : patternShelf.held;
    }

    public int word() {
        int answer = keepWord();
        typed.cut(0);
        return answer;
    }

    public int place(int i) {
        return kept.places.get(i);
    }

    public int value(int k) {
        return k < 1 ? NONE : kept.values.get(k);
    }

    public int text() {
        shown.cut(0);
        int hyphens = 0;
        int end = typed.used;
        for (int i = 0; i < end; i++) {
            if (letterAt(i) == 0) {
                shown.add(typed.get(i));
            } else if (i == 0 || letterAt(i - 1) == 0) {
                hyphens += showWord(i);
            }
        }
        typed.cut(0);
        return hyphens;
    }

    public int size() {
        return shown.used;
    }

    public int out(int i) {
        return shown.get(i);
    }

    private static Row firstLetters() {
        Row letters = new Row(CHARACTERS);
        for (int c = 0; c < CHARACTERS; c++) {
            letters.add(firstLetterOf(c));
        }
        return letters;
    }

    private static int firstLetterOf(int c) {
        if (c >= 'a' && c <= 'z') {
            return c - 'a' + 1;
        }
        return c >= 'A' && c <= 'Z' ? c - 'A' + 1 : 0;
    }

    private static int byteOf(long w, int i) {
        return (int) (w >>> (8 * i)) & 255;
    }

    private static boolean hasZero(long w, int n) {
        for (int i = 0; i < n; i++) {
            if (byteOf(w, i) == 0) {
                return true;
            }
        }
        return false;
    }

    private static boolean isDigit(int c) {
        return c >= '0' && c <= '9';
    }

    private static boolean neverALetter(int c) {
        return c == ' ' || c == '-' || c == '.' || isDigit(c);
    }

    private static int faultAnswer(int fault, int at) {
        return -FAULT_STEP * fault - at;
    }

    private int letterAt(int i) {
        return letterOf.get(typed.get(i));
    }

    private boolean startsEntry(int i) {
        return typed.get(i) != ' ' && (i == 0 || typed.get(i - 1) == ' ');
    }

    /** All entries of the text come onto the shelf, or, with a fault, none. */
    private int takeIn(Shelf shelf, boolean told) {
        int before = shelf.held;
        int taken = 0;
        int end = typed.used;
        for (int i = 0; i < end; i++) {
            if (startsEntry(i)) {
                int wrong = readEntry(told, i);
                int answer = wrong == NONE ? shelve(shelf, told, i) : faultAnswer(MISWRITTEN, wrong);
                if (answer != NO_FAULT) {
                    shelf.cutTo(before);
                    return answer;
                }
                taken++;
            }
        }
        return taken;
    }

    private int shelve(Shelf shelf, boolean told, int from) {
        if (entry.length > LONGEST) {
            return faultAnswer(TOO_LONG, from);
        }
        if (shelf.find(entry.letters, entry.sides) != NONE) {
            return told ? NO_FAULT : faultAnswer(THERE_ALREADY, from);
        }
        return shelf.add(entry) ? NO_FAULT : faultAnswer(TOO_MANY, from);
    }

    /** NONE, or where the entry that starts there can't go on as it is written. */
    private int readEntry(boolean told, int from) {
        entry.start();
        int end = typed.used;
        int i = from;
        while (i < end && typed.get(i) != ' ') {
            int c = typed.get(i);
            boolean good = told ? entry.takeOfTold(c, letterAt(i)) : entry.takeOfPattern(c, letterAt(i));
            if (!good) {
                return i;
            }
            i++;
        }
        return entry.isWhole(told) ? NONE : i;
    }

    /**
     * Told words that were there already get their new hyphens only now, in a second reading,
     * since a fault at the end of the text must leave the former ones.
     */
    private void retell() {
        int end = typed.used;
        for (int i = 0; i < end; i++) {
            if (startsEntry(i) && readEntry(true, i) == NONE) {
                toldShelf.renumber(toldShelf.find(entry.letters, entry.sides), entry.numbers);
            }
        }
    }

    private int keepWord() {
        int wrong = firstWithoutLetter();
        if (wrong != NONE) {
            return faultAnswer(MISWRITTEN, wrong);
        }
        if (typed.used > LONGEST) {
            return faultAnswer(TOO_LONG, 0);
        }
        breakWord(kept, 0, typed.used);
        return kept.places.used;
    }

    private int firstWithoutLetter() {
        int end = typed.used;
        for (int i = 0; i < end; i++) {
            if (letterAt(i) == 0) {
                return i;
            }
        }
        return end == 0 ? 0 : NONE;
    }

    private void breakWord(BrokenWord word, int from, int length) {
        word.start();
        for (int i = 0; i < length; i++) {
            word.addLetter(letterAt(from + i));
        }
        int told = toldShelf.find(word.letters, 0);
        if (told == NONE) {
            patternShelf.raiseAll(word.letters, word.values);
        } else {
            toldShelf.raise(told, 0, word.values);
        }
        word.findPlaces(left, right);
    }

    private int showWord(int from) {
        int length = runOfLetters(from);
        passing.start();
        if (length <= LONGEST) {
            breakWord(passing, from, length);
        }
        int hyphens = 0;
        for (int k = 1; k <= length; k++) {
            shown.add(typed.get(from + k - 1));
            if (passing.places.get(hyphens) == k) {
                shown.add('-');
                hyphens++;
            }
        }
        return hyphens;
    }

    private int runOfLetters(int from) {
        int end = typed.used;
        int i = from;
        while (i < end && letterAt(i) != 0) {
            i++;
        }
        return i - from;
    }

    /** Numbers in a row that grows as it is needed, so that a new object stays small. */
    private static final class Row {
        private static final int FIRST_CELLS = 16;

        private final int limit;
        private int[] cells;
        private int used;

        Row(int limit) {
            this.limit = limit;
            this.cells = new int[FIRST_CELLS];
            this.used = 0;
        }

        // What goes beyond the limit is left out: those who add count for themselves.
        void add(int number) {
            if (used >= limit) {
                return;
            }
            if (used >= cells.length) {
                cells = Arrays.copyOf(cells, Math.min(limit, 2 * cells.length));
            }
            cells[used] = number;
            used++;
        }

        int get(int i) {
            return i >= 0 && i < used ? cells[i] : NONE;
        }

        void set(int i, int number) {
            if (i >= 0 && i < used) {
                cells[i] = number;
            }
        }

        void cut(int keep) {
            if (keep >= 0 && keep < used) {
                used = keep;
            }
        }
    }

    /** The pattern or told word that is being read. */
    private static final class Entry {
        private final Row letters = new Row(LONGEST);
        private final Row numbers = new Row(LONGEST + 1);
        // Goes on counting when the rows are full: the fault of a long entry waits for its end.
        private int length;
        private int sides;
        private boolean marked;

        void start() {
            letters.cut(0);
            numbers.cut(0);
            numbers.add(0);
            length = 0;
            sides = 0;
            marked = false;
        }

        boolean takeOfPattern(int c, int letter) {
            if (c == '.') {
                return takeDot();
            }
            if ((sides & AT_END) != 0) {
                return false;
            }
            return isDigit(c) ? takeMark(c - '0') : takeLetter(letter);
        }

        boolean takeOfTold(int c, int letter) {
            if (c == '-') {
                return length > 0 && takeMark(1);
            }
            return takeLetter(letter);
        }

        boolean isWhole(boolean told) {
            return length > 0 && !(told && marked);
        }

        private boolean takeDot() {
            boolean begins = length == 0;
            boolean good = begins ? sides == 0 && !marked : (sides & AT_END) == 0;
            sides |= begins ? AT_BEGIN : AT_END;
            return good;
        }

        private boolean takeMark(int number) {
            if (marked) {
                return false;
            }
            marked = true;
            numbers.set(length, number);
            return true;
        }

        private boolean takeLetter(int letter) {
            if (letter < 1) {
                return false;
            }
            letters.add(letter);
            numbers.add(0);
            length++;
            marked = false;
            return true;
        }
    }

    /** Patterns or told words; those with the same first letter are chained, the newest in front. */
    private static final class Shelf {
        private final int most;
        private final Row letters = new Row(MOST_KEPT_LETTERS);
        private final Row numbers;
        private final Row starts;
        private final Row lengths;
        private final Row sides;
        private final Row older;
        private final Row newest = new Row(GREATEST_LETTER + 1);
        private int held;

        Shelf(int most) {
            this.most = most;
            this.numbers = new Row(MOST_KEPT_LETTERS + most);
            this.starts = new Row(most);
            this.lengths = new Row(most);
            this.sides = new Row(most);
            this.older = new Row(most);
            for (int letter = 0; letter <= GREATEST_LETTER; letter++) {
                newest.add(NONE);
            }
            this.held = 0;
        }

        boolean add(Entry entry) {
            if (held >= most || letters.used > MOST_KEPT_LETTERS - entry.length) {
                return false;
            }
            int first = entry.letters.get(0);
            starts.add(letters.used);
            lengths.add(entry.length);
            sides.add(entry.sides);
            older.add(newest.get(first));
            newest.set(first, held);
            numbers.add(entry.numbers.get(0));
            for (int i = 0; i < entry.length; i++) {
                letters.add(entry.letters.get(i));
                numbers.add(entry.numbers.get(i + 1));
            }
            held++;
            return true;
        }

        int find(Row sought, int soughtSides) {
            int e = newest.get(sought.get(0));
            for (int tries = 0; tries < held && e != NONE; tries++) {
                boolean alike = lengths.get(e) == sought.used && sides.get(e) == soughtSides;
                if (alike && fits(e, sought, 0)) {
                    return e;
                }
                e = older.get(e);
            }
            return NONE;
        }

        void renumber(int e, Row entryNumbers) {
            int from = numbersFrom(e);
            int length = lengths.get(e);
            for (int i = 0; i <= length; i++) {
                numbers.set(from + i, entryNumbers.get(i));
            }
        }

        void raiseAll(Row word, Row values) {
            for (int at = 0; at < word.used; at++) {
                int e = newest.get(word.get(at));
                for (int tries = 0; tries < held && e != NONE; tries++) {
                    if (fits(e, word, at)) {
                        raise(e, at, values);
                    }
                    e = older.get(e);
                }
            }
        }

        void raise(int e, int at, Row values) {
            int from = numbersFrom(e);
            int length = lengths.get(e);
            for (int i = 0; i <= length; i++) {
                values.set(at + i, Math.max(values.get(at + i), numbers.get(from + i)));
            }
        }

        void cutTo(int keep) {
            for (int e = held - 1; e >= keep; e--) {
                int start = starts.get(e);
                newest.set(letters.get(start), older.get(e));
                numbers.cut(numbersFrom(e));
                letters.cut(start);
                starts.cut(e);
                lengths.cut(e);
                sides.cut(e);
                older.cut(e);
                held = e;
            }
        }

        // Each entry before this one has one number more than it has letters.
        private int numbersFrom(int e) {
            return starts.get(e) + e;
        }

        private boolean fits(int e, Row word, int at) {
            int length = lengths.get(e);
            int rest = word.used - at;
            int side = sides.get(e);
            if (length > rest) {
                return false;
            }
            if ((side & AT_BEGIN) != 0 && at != 0 || (side & AT_END) != 0 && length != rest) {
                return false;
            }
            int start = starts.get(e);
            for (int i = 0; i < length; i++) {
                if (letters.get(start + i) != word.get(at + i)) {
                    return false;
                }
            }
            return true;
        }
    }

    /** A word with the values of its places (from 1 on) and the places at which it is broken. */
    private static final class BrokenWord {
        private final Row letters = new Row(LONGEST);
        private final Row values = new Row(LONGEST);
        private final Row places = new Row(LONGEST);

        void start() {
            letters.cut(0);
            values.cut(0);
            places.cut(0);
        }

        void addLetter(int letter) {
            letters.add(letter);
            values.add(0);
        }

        void findPlaces(int left, int right) {
            int last = letters.used - right;
            for (int k = left; k <= last; k++) {
                if ((values.get(k) & 1) == 1) {
                    places.add(k);
                }
            }
        }
    }
}
