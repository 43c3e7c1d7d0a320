/** Promise 4, and what BROKEN says of LEFT and RIGHT. */
public final class LeastTest {
    private static final String LONG = "ab".repeat(31) + "a";

    public static void main(String[] args) {
        wrongOnes();
        edges();
        bothEndsOfAllLengths();
        fromNowOn();
        Check.finish();
    }

    private static void wrongOnes() {
        WordBreaker x = new WordBreaker();
        Check.duePatterns(x, "1a1", 1);
        int[] wrong = {0, -1, 64, 65, Integer.MIN_VALUE, Integer.MAX_VALUE};
        for (int n : wrong) {
            Check.due("least(" + n + ", 1)", x.least(n, 1), false);
            Check.due("least(1, " + n + ")", x.least(1, n), false);
            Check.due("least(" + n + ", " + n + ")", x.least(n, n), false);
            Check.dueWord(x, "aaaaaa", 2);
            Check.duePlaces(x, "2 3");
        }
    }

    private static void edges() {
        WordBreaker x = new WordBreaker();
        Check.duePatterns(x, "1a1 1b1", 2);
        Check.due("least(1, 1)", x.least(1, 1), true);
        Check.dueWord(x, LONG, 62);
        Check.due("least(63, 1)", x.least(63, 1), true);
        Check.dueWord(x, LONG, 0);
        Check.due("least(1, 63)", x.least(1, 63), true);
        Check.dueWord(x, LONG, 0);
        Check.due("least(63, 63)", x.least(63, 63), true);
        Check.dueWord(x, LONG, 0);
        Check.due("least(62, 1)", x.least(62, 1), true);
        Check.dueWord(x, LONG, 1);
        Check.duePlaces(x, "62");
        Check.due("least(1, 62)", x.least(1, 62), true);
        Check.dueWord(x, LONG, 1);
        Check.duePlaces(x, "1");
    }

    private static void bothEndsOfAllLengths() {
        WordBreaker x = new WordBreaker();
        Check.dueWords(x, "x-x-x-x-x-x-x", 1);
        Check.duePatterns(x, "1a1", 1);
        for (int left = 1; left < 8; left++) {
            for (int right = 1; right < 8; right++) {
                x.least(left, right);
                int places = Math.max(0, 7 - right - left + 1);
                Check.dueWord(x, "aaaaaaa", places);
                Check.due("place(0)", x.place(0), places == 0 ? -1 : left);
                Check.dueWord(x, "xxxxxxx", places);
                Check.due("the last place", x.place(places - 1), places == 0 ? -1 : 7 - right);
            }
        }
    }

    private static void fromNowOn() {
        WordBreaker x = new WordBreaker();
        Check.duePatterns(x, "1a1", 1);
        Check.dueWord(x, "aaaaa", 1);
        x.least(1, 1);
        Check.duePlaces(x, "2");
        Check.dueText(x, "aaa", "a-a-a");
        x.least(2, 1);
        Check.dueOut(x, "a-a-a");
        Check.dueText(x, "aaa", "aa-a");
    }
}
