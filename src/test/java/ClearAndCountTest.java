/** Promises 7 and 8. */
public final class ClearAndCountTest {
    public static void main(String[] args) {
        eachForItself();
        whatWasFoundStays();
        usableAgain();
        textStays();
        Check.finish();
    }

    private static void eachForItself() {
        WordBreaker x = new WordBreaker();
        Check.duePatterns(x, "a1b b1c c1d", 3);
        Check.dueWords(x, "ab-c b-c", 2);
        Check.due("count(false)", x.count(false), 3);
        Check.due("count(true)", x.count(true), 2);
        Check.due("clear(true)", x.clear(true), 2);
        Check.due("count(false)", x.count(false), 3);
        Check.due("count(true)", x.count(true), 0);
        Check.due("clear(true)", x.clear(true), 0);
        Check.dueWords(x, "q", 1);
        Check.due("clear(false)", x.clear(false), 3);
        Check.due("count(false)", x.count(false), 0);
        Check.due("count(true)", x.count(true), 1);
        Check.due("clear(false)", x.clear(false), 0);
    }

    private static void whatWasFoundStays() {
        WordBreaker x = new WordBreaker();
        x.least(1, 1);
        Check.duePatterns(x, "a3b", 1);
        Check.dueWords(x, "b-c", 1);
        Check.dueText(x, "ab bc", "a-b b-c");
        Check.dueWord(x, "abab", 2);
        x.clear(false);
        x.clear(true);
        Check.dueValues(x, "303");
        Check.duePlaces(x, "1 3");
        Check.dueOut(x, "a-b b-c");
        Check.dueText(x, "ab bc", "ab bc");
        Check.dueWord(x, "abab", 0);
        Check.dueValues(x, "000");
    }

    private static void usableAgain() {
        WordBreaker x = new WordBreaker();
        x.least(1, 1);
        for (int i = 0; i < 10; i++) {
            Check.duePatterns(x, "a1b .a2b", 2);
            Check.dueWords(x, "b-a ca", 2);
            Check.dueWord(x, "bab", 1);
            Check.dueValues(x, "01");
            Check.due("clear(false)", x.clear(false), 2);
            Check.dueWord(x, "ba", 1);
            Check.due("clear(true)", x.clear(true), 2);
            Check.dueWord(x, "ba", 0);
        }
    }

    private static void textStays() {
        WordBreaker x = new WordBreaker();
        Check.put(x, "a1b");
        x.clear(false);
        x.clear(true);
        x.count(false);
        x.count(true);
        x.place(0);
        x.value(0);
        x.size();
        x.out(0);
        x.least(1, 1);
        x.letter('!', 3);
        Check.due("patterns()", x.patterns(), 1);
    }
}
