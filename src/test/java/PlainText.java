import java.util.ArrayList;
import java.util.Arrays;
import java.util.Collections;
import java.util.HashMap;
import java.util.HashSet;
import java.util.List;
import java.util.Map;
import java.util.TreeSet;

/**
 * The document once more, each answer found straight from the words under "Terms" and by no clever way, so that
 * what LyndonText answers can be held against it. Letters are the signs from 'a' on.
 */
final class PlainText {
    private static final Map<String, List<String>> NECKLACES = new HashMap<>();

    private String text = "";

    String letters() {
        return text;
    }

    private static void place(int place, int end) {
        if (place < 0 || place >= end) {
            throw new IndexOutOfBoundsException();
        }
    }

    private String part(int from, int to) {
        if (!(0 <= from && from < to && to <= text.length())) {
            throw new IndexOutOfBoundsException();
        }
        return text.substring(from, to);
    }

    private static void range(long value, long least, long most) {
        if (value < least || value > most) {
            throw new IllegalArgumentException();
        }
    }

    private int room(String longer) {
        if (longer.length() > 64) {
            throw new IllegalStateException();
        }
        text = longer;
        return text.length();
    }

    private static String sign(int letter) {
        return String.valueOf((char) ('a' + letter));
    }

    public int append(int letter) {
        range(letter, 0, 25);
        return room(text + sign(letter));
    }

    public int insert(int place, int letter) {
        place(place, text.length() + 1);
        range(letter, 0, 25);
        return room(text.substring(0, place) + sign(letter) + text.substring(place));
    }

    public int set(int place, int letter) {
        place(place, text.length());
        range(letter, 0, 25);
        int before = text.charAt(place) - 'a';
        text = text.substring(0, place) + sign(letter) + text.substring(place + 1);
        return before;
    }

    public int remove(int place) {
        place(place, text.length());
        int taken = text.charAt(place) - 'a';
        text = text.substring(0, place) + text.substring(place + 1);
        return taken;
    }

    public int clear() {
        int before = text.length();
        text = "";
        return before;
    }

    public int reverse() {
        text = new StringBuilder(text).reverse().toString();
        return text.length();
    }

    public int rotate(int letters) {
        range(letters, 0, 63);
        if (text.isEmpty()) {
            throw new IllegalStateException();
        }
        for (int i = 0; i < letters; i++) {
            text = text.substring(1) + text.charAt(0);
        }
        return text.charAt(0) - 'a';
    }

    public int appendPart(int from, int to) {
        return room(text + part(from, to));
    }

    public int loadDeBruijn(int letters, int length) {
        range(letters, 1, 8);
        range(length, 1, 6);
        range(Math.round(Math.pow(letters, length)), 0, 64);
        TreeSet<String> words = new TreeSet<>();
        for (int n = 1; n <= length; n++) {
            for (String word : length % n == 0 ? allWords(letters, n) : new ArrayList<String>()) {
                if (isLyndonWord(word)) {
                    words.add(word);
                }
            }
        }
        text = String.join("", words);
        return text.length();
    }

    public int loadNecklace(int letters, int length, int number) {
        range(letters, 1, 4);
        range(length, 1, 8);
        List<String> all = allNecklaces(letters, length);
        range(number, 0, all.size() - 1);
        text = all.get(number);
        return root(text).length();
    }

    public int length() {
        return text.length();
    }

    public int letterAt(int place) {
        place(place, text.length());
        return text.charAt(place) - 'a';
    }

    public int compare(int from, int to, int otherFrom, int otherTo) {
        String one = part(from, to);
        return Integer.signum(one.compareTo(part(otherFrom, otherTo)));
    }

    public int commonPrefix(int place, int other) {
        place(place, text.length() + 1);
        place(other, text.length() + 1);
        int same = 0;
        while (text.startsWith(text.substring(place, Math.min(text.length(), place + same + 1)), other)
                && Math.max(place, other) + same < text.length()) {
            same++;
        }
        return same;
    }

    public boolean isLyndon(int from, int to) {
        return isLyndonWord(part(from, to));
    }

    public int factors() {
        return factorsOf(text).size();
    }

    public int factorStart(int factor) {
        List<String> all = factorsOf(text);
        place(factor, all.size());
        return String.join("", all.subList(0, factor)).length();
    }

    public int factorLength(int factor) {
        List<String> all = factorsOf(text);
        place(factor, all.size());
        return all.get(factor).length();
    }

    public int factorOver(int place) {
        place(place, text.length());
        int factor = 0;
        int end = 0;
        for (String one : factorsOf(text)) {
            end += one.length();
            if (end <= place) {
                factor++;
            }
        }
        return factor;
    }

    public int longestLyndon(int place, boolean isReversed) {
        place(place, text.length());
        String rest = text.substring(place);
        if (isReversed) {
            StringBuilder turned = new StringBuilder();
            for (char letter : rest.toCharArray()) {
                turned.append((char) ('a' + 'z' - letter));
            }
            rest = turned.toString();
        }
        int length = rest.length();
        while (!isLyndonWord(rest.substring(0, length))) {
            length--;
        }
        return length;
    }

    public int standardFactor(int from, int to) {
        String word = part(from, to);
        if (word.length() == 1 || !isLyndonWord(word)) {
            throw new IllegalStateException();
        }
        int start = 1;
        while (!isLyndonWord(word.substring(start))) {
            start++;
        }
        return from + start;
    }

    public int leastRotation(int from, int to) {
        List<String> all = rotationsOf(part(from, to));
        return all.indexOf(Collections.min(all));
    }

    public int greatestRotation(int from, int to) {
        List<String> all = rotationsOf(part(from, to));
        return all.indexOf(Collections.max(all));
    }

    public int rotations(int from, int to) {
        return new HashSet<>(rotationsOf(part(from, to))).size();
    }

    public boolean isNecklace(int from, int to) {
        return isNecklaceWord(part(from, to));
    }

    public int period(int from, int to) {
        return leastPeriod(part(from, to));
    }

    public int periodByTrying(int from, int to) {
        return leastPeriod(part(from, to));
    }

    public boolean isPeriod(int from, int to, int period) {
        String word = part(from, to);
        range(period, 1, word.length());
        return hasPeriod(word, period);
    }

    public int periods(int from, int to) {
        String word = part(from, to);
        int count = 0;
        for (int p = 1; p <= word.length(); p++) {
            count += hasPeriod(word, p) ? 1 : 0;
        }
        return count;
    }

    public int border(int from, int to) {
        String word = part(from, to);
        int length = word.length() - 1;
        while (!word.endsWith(word.substring(0, length))) {
            length--;
        }
        return length;
    }

    public int rootLength(int from, int to) {
        return root(part(from, to)).length();
    }

    public double exponent(int from, int to) {
        String word = part(from, to);
        return (double) word.length() / leastPeriod(word);
    }

    public int runs() {
        return runsOf(text).size();
    }

    private int[] run(int run) {
        List<int[]> all = runsOf(text);
        place(run, all.size());
        return all.get(run);
    }

    public int runStart(int run) {
        return run(run)[0];
    }

    public int runEnd(int run) {
        return run(run)[1];
    }

    public int runPeriod(int run) {
        return run(run)[2];
    }

    public int runsOver(int place) {
        place(place, text.length());
        int count = 0;
        for (int[] run : runsOf(text)) {
            count += run[0] <= place && place < run[1] ? 1 : 0;
        }
        return count;
    }

    public double exponentsOfRuns() {
        double sum = 0.0;
        for (int[] run : runsOf(text)) {
            sum += (double) (run[1] - run[0]) / run[2];
        }
        return sum;
    }

    public int squares() {
        int count = 0;
        for (int from = 0; from < text.length(); from++) {
            for (int half = 1; from + 2 * half <= text.length(); half++) {
                String word = text.substring(from, from + half);
                count += text.startsWith(word, from + half) && root(word).equals(word) ? 1 : 0;
            }
        }
        return count;
    }

    public int suffixAt(int rank) {
        place(rank, text.length());
        return text.length() - suffixes().get(rank).length();
    }

    public int rankOf(int place) {
        place(place, text.length());
        return suffixes().indexOf(text.substring(place));
    }

    public long necklaces(int letters, int length) {
        range(letters, 1, 10);
        range(length, 1, 12);
        // Burnside: the words that a rotation leaves as they are, over all rotations, divided by how many there are.
        long sum = 0;
        for (int shift = 1; shift <= length; shift++) {
            sum += Math.round(Math.pow(letters, gcd(shift, length)));
        }
        return sum / length;
    }

    public long lyndonWords(int letters, int length) {
        range(letters, 1, 10);
        range(length, 1, 12);
        // Each word is a rotation of a power of just one Lyndon word.
        long rest = Math.round(Math.pow(letters, length));
        for (int n = 1; n < length; n++) {
            rest -= length % n == 0 ? n * lyndonWords(letters, n) : 0;
        }
        return rest / length;
    }

    public int necklaceNumber(int from, int to, int letters) {
        String word = part(from, to);
        range(letters, 1, 4);
        for (char letter : word.toCharArray()) {
            if (letter - 'a' >= letters) {
                throw new IllegalStateException();
            }
        }
        if (word.length() > 8) {
            throw new IllegalStateException();
        }
        return allNecklaces(letters, word.length()).indexOf(Collections.min(rotationsOf(word)));
    }

    // ---- words

    static boolean isLyndonWord(String word) {
        for (int from = 1; from < word.length(); from++) {
            if (word.compareTo(word.substring(from)) >= 0) {
                return false;
            }
        }
        return true;
    }

    /** Two neighbours of which the first is less are one Lyndon word; joined until there are none. */
    static List<String> factorsOf(String word) {
        List<String> row = new ArrayList<>(Arrays.asList(word.isEmpty() ? new String[0] : word.split("")));
        for (int i = 0; i + 1 < row.size();) {
            if (row.get(i).compareTo(row.get(i + 1)) < 0) {
                row.set(i, row.get(i) + row.remove(i + 1));
                i = 0;
            } else {
                i++;
            }
        }
        return row;
    }

    static List<String> rotationsOf(String word) {
        List<String> all = new ArrayList<>();
        for (int k = 0; k < word.length(); k++) {
            all.add(word.substring(k) + word.substring(0, k));
        }
        return all;
    }

    static boolean isNecklaceWord(String word) {
        for (String rotation : rotationsOf(word)) {
            if (word.compareTo(rotation) > 0) {
                return false;
            }
        }
        return true;
    }

    static boolean hasPeriod(String word, int p) {
        return word.substring(p).equals(word.substring(0, word.length() - p));
    }

    static int leastPeriod(String word) {
        int p = 1;
        while (!hasPeriod(word, p)) {
            p++;
        }
        return p;
    }

    static String root(String word) {
        for (int n = 1; n <= word.length(); n++) {
            if (word.length() % n == 0 && word.substring(0, n).repeat(word.length() / n).equals(word)) {
                return word.substring(0, n);
            }
        }
        return word;
    }

    static List<int[]> runsOf(String text) {
        List<int[]> all = new ArrayList<>();
        for (int from = 0; from < text.length(); from++) {
            for (int to = from + 2; to <= text.length(); to++) {
                int p = leastPeriod(text.substring(from, to));
                boolean isLong = to - from >= 2 * p;
                boolean ahead = isLong && from > 0 && hasPeriod(text.substring(from - 1, to), p);
                boolean behind = isLong && to < text.length() && hasPeriod(text.substring(from, to + 1), p);
                if (isLong && !ahead && !behind) {
                    all.add(new int[] {from, to, p});
                }
            }
        }
        all.sort((a, b) -> a[0] != b[0] ? a[0] - b[0] : a[2] - b[2]);
        return all;
    }

    private List<String> suffixes() {
        List<String> all = new ArrayList<>();
        for (int from = 0; from < text.length(); from++) {
            all.add(text.substring(from));
        }
        Collections.sort(all);
        return all;
    }

    static List<String> allWords(int letters, int length) {
        List<String> words = List.of("");
        for (int n = 0; n < length; n++) {
            List<String> longer = new ArrayList<>();
            for (String word : words) {
                for (int letter = 0; letter < letters; letter++) {
                    longer.add(word + sign(letter));
                }
            }
            words = longer;
        }
        return words;
    }

    static List<String> allNecklaces(int letters, int length) {
        return NECKLACES.computeIfAbsent(letters + " " + length, key -> {
            List<String> found = new ArrayList<>();
            for (String word : allWords(letters, length)) {
                if (isNecklaceWord(word)) {
                    found.add(word);
                }
            }
            Collections.sort(found);
            return found;
        });
    }

    private static int gcd(int a, int b) {
        return b == 0 ? a : gcd(b, a % b);
    }
}
