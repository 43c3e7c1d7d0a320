import java.util.ArrayList;
import java.util.Arrays;
import java.util.HashMap;
import java.util.LinkedHashMap;
import java.util.List;
import java.util.Map;
import java.util.regex.Matcher;
import java.util.regex.Pattern;

/** The document once more, with texts, maps and regular expressions, to hold the class against. */
final class PlainBreaker {
    private static final Pattern PATTERN = Pattern.compile("\\.?D?(?:LD?)+\\.?");
    private static final Pattern TOLD = Pattern.compile("L(?:-?L)*");

    private final int[] letterOf = new int[256];
    private final StringBuilder typed = new StringBuilder();
    private String out = "";
    private int left = 2;
    private int right = 3;
    private Map<String, int[]> patterns = new LinkedHashMap<>();
    private Map<String, int[]> told = new LinkedHashMap<>();
    private int[] values = new int[0];
    private List<Integer> places = new ArrayList<>();

    PlainBreaker() {
        for (int i = 1; i <= 26; i++) {
            letterOf['a' + i - 1] = i;
            letterOf['A' + i - 1] = i;
        }
    }

    boolean type(long w, int n) {
        if (n < 1 || n > 8 || typed.length() + n > 4000) {
            return false;
        }
        StringBuilder more = new StringBuilder();
        for (int i = 0; i < n; i++) {
            more.append((char) (w >> 8 * i & 255));
        }
        if (more.indexOf("\0") >= 0) {
            return false;
        }
        typed.append(more);
        return true;
    }

    boolean letter(int c, int letter) {
        if (c < 1 || c > 255 || " -.0123456789".indexOf(c) >= 0 || letter < 0 || letter > 63) {
            return false;
        }
        letterOf[c] = letter;
        return true;
    }

    boolean least(int l, int r) {
        if (Math.min(l, r) < 1 || Math.max(l, r) > 63) {
            return false;
        }
        left = l;
        right = r;
        return true;
    }

    int patterns() {
        Map<String, int[]> all = new LinkedHashMap<>(patterns);
        int answer = read(PATTERN, all, 1000);
        patterns = answer < 0 ? patterns : all;
        return answer;
    }

    int words() {
        Map<String, int[]> all = new LinkedHashMap<>(told);
        int answer = read(TOLD, all, 300);
        told = answer < 0 ? told : all;
        return answer;
    }

    int clear(boolean words) {
        int n = count(words);
        (words ? told : patterns).clear();
        return n;
    }

    int count(boolean words) {
        return (words ? told : patterns).size();
    }

    int word() {
        String text = used();
        for (int i = 0; i < text.length(); i++) {
            if (letterOf[text.charAt(i)] == 0) {
                return -10000 - i;
            }
        }
        if (text.isEmpty() || text.length() > 63) {
            return text.isEmpty() ? -10000 : -20000;
        }
        values = valuesOf(letters(text));
        places = placesOf(values, text.length());
        return places.size();
    }

    int place(int i) {
        return i >= 0 && i < places.size() ? places.get(i) : -1;
    }

    int value(int k) {
        return k >= 1 && k < values.length - 1 ? values[k] : -1;
    }

    int text() {
        String text = used();
        StringBuilder made = new StringBuilder();
        Matcher m = Pattern.compile("L+|[^L]+").matcher(kinds(text));
        while (m.find()) {
            String part = text.substring(m.start(), m.end());
            StringBuilder shown = new StringBuilder(part);
            if (m.group().startsWith("L") && part.length() <= 63) {
                List<Integer> breaks = placesOf(valuesOf(letters(part)), part.length());
                for (int i = breaks.size() - 1; i >= 0; i--) {
                    shown.insert(breaks.get(i), "-");
                }
            }
            made.append(shown);
        }
        out = made.toString();
        return out.length() - text.length();
    }

    int size() {
        return out.length();
    }

    int out(int i) {
        return i >= 0 && i < out.length() ? out.charAt(i) : -1;
    }

    private String used() {
        String text = typed.toString();
        typed.setLength(0);
        return text;
    }

    private String letters(String part) {
        StringBuilder letters = new StringBuilder();
        for (char c : part.toCharArray()) {
            letters.append((char) (letterOf[c] + 1000));
        }
        return letters.toString();
    }

    private String kinds(String text) {
        StringBuilder kinds = new StringBuilder();
        for (char c : text.toCharArray()) {
            boolean sign = c == ' ' || c == '-' || c == '.';
            kinds.append(sign ? c : Character.isDigit(c) ? 'D' : letterOf[c] == 0 ? 'X' : 'L');
        }
        return kinds.toString();
    }

    private int read(Pattern written, Map<String, int[]> all, int most) {
        String text = used();
        Matcher m = Pattern.compile("[^ ]+").matcher(text);
        int n = 0;
        while (m.find()) {
            int wrong = wrongAt(written, kinds(m.group()));
            if (wrong >= 0) {
                return -10000 - m.start() - wrong;
            }
            String key = keyOf(m.group());
            if (key.replace(".", "").length() > 63) {
                return -20000 - m.start();
            }
            if (written == PATTERN && all.containsKey(key)) {
                return -30000 - m.start();
            }
            all.put(key, numbersOf(m.group()));
            if (all.size() > most || lettersIn(all) > 8000) {
                return -40000 - m.start();
            }
            n++;
        }
        return n;
    }

    private static int wrongAt(Pattern written, String kinds) {
        for (int i = 1; i <= kinds.length(); i++) {
            Matcher m = written.matcher(kinds.substring(0, i));
            if (!m.matches() && !m.hitEnd()) {
                return i - 1;
            }
        }
        return written.matcher(kinds).matches() ? -1 : kinds.length();
    }

    private String keyOf(String written) {
        StringBuilder key = new StringBuilder();
        for (char c : written.toCharArray()) {
            if (c == '.') {
                key.append(c);
            } else if (letterOf[c] != 0) {
                key.append((char) (letterOf[c] + 1000));
            }
        }
        return key.toString();
    }

    private int[] numbersOf(String written) {
        int[] numbers = new int[written.length() + 1];
        int n = 0;
        for (char c : written.toCharArray()) {
            if (letterOf[c] != 0) {
                n++;
            } else if (c != '.') {
                numbers[n] = c == '-' ? 1 : c - '0';
            }
        }
        return Arrays.copyOf(numbers, n + 1);
    }

    private static int lettersIn(Map<String, int[]> all) {
        return all.values().stream().mapToInt(numbers -> numbers.length - 1).sum();
    }

    private int[] valuesOf(String word) {
        if (told.containsKey(word)) {
            return told.get(word);
        }
        int[] found = new int[word.length() + 1];
        String dotted = "." + word + ".";
        for (Map.Entry<String, int[]> e : patterns.entrySet()) {
            int skipped = e.getKey().startsWith(".") ? 0 : 1;
            for (int at = dotted.indexOf(e.getKey()); at >= 0; at = dotted.indexOf(e.getKey(), at + 1)) {
                for (int j = 0; j < e.getValue().length; j++) {
                    int k = at - skipped + j;
                    found[k] = Math.max(found[k], e.getValue()[j]);
                }
            }
        }
        return found;
    }

    private List<Integer> placesOf(int[] found, int n) {
        List<Integer> breaks = new ArrayList<>();
        for (int k = 1; k < n; k++) {
            if (found[k] % 2 == 1 && k >= left && n - k >= right) {
                breaks.add(k);
            }
        }
        return breaks;
    }

    /** How often each answer below 0 came, so that a test can tell whether all faults were met. */
    static final class Tally {
        private final Map<Integer, Integer> met = new HashMap<>();

        void see(int answer) {
            met.merge(answer < 0 ? -answer / 10000 : 0, 1, Integer::sum);
        }

        boolean has(int fault) {
            return met.getOrDefault(fault, 0) > 0;
        }
    }
}
