import java.lang.reflect.Method;
import java.lang.reflect.Modifier;
import java.util.Arrays;
import java.util.Set;
import java.util.TreeSet;

/**
 * "An object is used for at most 512 calls": each method of the face is made as the 512th call of an object, answered
 * and refused, whatever the 511 calls before it were.
 */
final class LastCallTest {
    private static final int CALLS = 512;
    private static final String TEXT = "aabaabc";
    private static final Class<?> INDEX = IndexOutOfBoundsException.class;
    private static final Class<?> ARGUMENT = IllegalArgumentException.class;
    private static final Class<?> STATE = IllegalStateException.class;

    /** Of the text: what is due, the method, its arguments. */
    private static final Object[][] EDITS = {{8, "append", 3}, {8, "insert", 0, 3}, {2, "set", 6, 0}, {1, "remove", 2},
        {7, "reverse"}, {1, "rotate", 2}, {14, "appendPart", 0, 7}, {64, "loadDeBruijn", 2, 6},
        {2, "loadNecklace", 2, 4, 3}, {7, "clear"}};

    private static final Object[][] QUESTIONS = {{7, "length"}, {2, "letterAt", 6}, {-1, "compare", 0, 2, 3, 6},
        {3, "commonPrefix", 0, 3}, {true, "isLyndon", 0, 7}, {1, "factors"}, {0, "factorStart", 0},
        {7, "factorLength", 0}, {0, "factorOver", 6}, {1, "longestLyndon", 2, false}, {3, "longestLyndon", 2, true},
        {3, "standardFactor", 0, 7}, {1, "leastRotation", 2, 6}, {3, "greatestRotation", 2, 6}, {3, "rotations", 0, 6},
        {true, "isNecklace", 0, 6}, {3, "period", 0, 6}, {3, "periodByTrying", 0, 6}, {true, "isPeriod", 0, 6, 3},
        {2, "periods", 0, 6}, {3, "border", 0, 6}, {3, "rootLength", 0, 6}, {2.0, "exponent", 0, 6}, {3, "runs"},
        {3, "runStart", 2}, {6, "runEnd", 1}, {3, "runPeriod", 1}, {2, "runsOver", 4}, {6.0, "exponentsOfRuns"},
        {3, "squares"}, {1, "suffixAt", 2}, {3, "rankOf", 4}, {6L, "necklaces", 2, 4}, {9L, "lyndonWords", 2, 6},
        {1, "necklaceNumber", 1, 4, 2}};

    private static final Object[][] REFUSED = {{ARGUMENT, "append", 26}, {INDEX, "insert", 8, 26},
        {ARGUMENT, "insert", 7, 26}, {INDEX, "set", 7, 26}, {ARGUMENT, "set", 6, -1}, {INDEX, "remove", 7},
        {ARGUMENT, "rotate", 64}, {INDEX, "appendPart", 0, 8}, {ARGUMENT, "loadDeBruijn", 3, 4},
        {ARGUMENT, "loadNecklace", 2, 4, 6}, {INDEX, "letterAt", 7}, {INDEX, "compare", 0, 1, 7, 8},
        {INDEX, "commonPrefix", 0, 8}, {INDEX, "isLyndon", 3, 3}, {INDEX, "factorStart", 1},
        {INDEX, "factorLength", -1}, {INDEX, "factorOver", 7}, {INDEX, "longestLyndon", 7, true},
        {INDEX, "standardFactor", 0, 8}, {STATE, "standardFactor", 0, 2}, {INDEX, "leastRotation", -1, 3},
        {INDEX, "greatestRotation", 0, 8}, {INDEX, "rotations", 4, 3}, {INDEX, "isNecklace", 7, 7},
        {INDEX, "period", 7, 8}, {INDEX, "periodByTrying", 0, 0}, {INDEX, "isPeriod", 0, 8, 9},
        {ARGUMENT, "isPeriod", 0, 6, 7}, {INDEX, "periods", -1, 7}, {INDEX, "border", 0, 8},
        {INDEX, "rootLength", 2, 1}, {INDEX, "exponent", 3, 3}, {INDEX, "runStart", 3}, {INDEX, "runEnd", 3},
        {INDEX, "runPeriod", -1}, {INDEX, "runsOver", 7}, {INDEX, "suffixAt", 7}, {INDEX, "rankOf", -1},
        {ARGUMENT, "necklaces", 11, 1}, {ARGUMENT, "lyndonWords", 1, 13}, {INDEX, "necklaceNumber", 0, 8, 5},
        {ARGUMENT, "necklaceNumber", 0, 7, 5}, {STATE, "necklaceNumber", 0, 7, 2}};

    /** Refused whatever the text is. */
    private static final Object[][] ALWAYS_REFUSED = {{ARGUMENT, "append", 26}, {INDEX, "insert", 65, 0},
        {INDEX, "set", 64, 0}, {INDEX, "remove", -1}, {ARGUMENT, "rotate", 64}, {INDEX, "appendPart", 0, 65},
        {ARGUMENT, "loadDeBruijn", 3, 4}, {ARGUMENT, "loadNecklace", 2, 4, 6}, {INDEX, "letterAt", 64},
        {INDEX, "compare", 0, 1, -1, 1}, {INDEX, "standardFactor", 64, 65}, {INDEX, "isPeriod", 1, 1, 1},
        {INDEX, "factorStart", 64}, {INDEX, "runEnd", 64}, {INDEX, "suffixAt", 64}, {ARGUMENT, "necklaces", 11, 1},
        {INDEX, "necklaceNumber", 0, 65, 4}};

    private LastCallTest() {
    }

    public static void main(String[] args) {
        allAreAsked();
        for (Object[][] rows : new Object[][][] {EDITS, QUESTIONS, REFUSED}) {
            for (Object[] row : rows) {
                last(TEXT, row);
            }
        }
        last("", STATE, "rotate", 0);
        last("", 0, "clear");
        last("", INDEX, "remove", 0);
        last("", 0.0, "exponentsOfRuns");
        last(Edges.FULL, STATE, "append", 0);
        last(Edges.FULL, STATE, "insert", 64, 0);
        last(Edges.FULL, STATE, "appendPart", 63, 64);
        last(Edges.FULL, 64, "loadDeBruijn", 8, 2);
        last(Edges.FULL, STATE, "necklaceNumber", 0, 9, 4);
        Check.finish("LastCallTest");
    }

    private static void allAreAsked() {
        Set<String> asked = new TreeSet<>();
        for (Object[][] rows : new Object[][][] {EDITS, QUESTIONS}) {
            for (Object[] row : rows) {
                asked.add((String) row[1]);
            }
        }
        Set<String> face = new TreeSet<>();
        for (Method method : LyndonText.class.getDeclaredMethods()) {
            if (Modifier.isPublic(method.getModifiers())) {
                face.add(method.getName());
            }
        }
        Check.same("methods that are made as a last call", asked, face);
    }

    private static void last(String letters, Object... row) {
        behind("questions", letters, row, QUESTIONS);
        behind("refused calls", letters, row, ALWAYS_REFUSED);
        behindEdits("edits", letters, row, EDITS);
        behindEdits("calls of all kinds", letters, row, EDITS, QUESTIONS, REFUSED);
    }

    private static void behind(String kind, String letters, Object[] row, Object[][] before) {
        LyndonText x = new LyndonText();
        int called = append(x, letters);
        while (called < CALLS - 1) {
            call(x, before[called % before.length]);
            called++;
        }
        Check.same(told(row, letters, kind), call(x, row), row[0]);
    }

    /** One call of each kind in turn, and then the text is made anew. */
    private static void behindEdits(String kind, String letters, Object[] row, Object[][]... before) {
        LyndonText x = new LyndonText();
        int called = 0;
        while (called < CALLS - 1 - 1 - letters.length()) {
            Object[][] rows = before[called % before.length];
            call(x, rows[called / before.length % rows.length]);
            called++;
        }
        x.clear();
        called += 1 + append(x, letters);
        Check.same("calls before the last one", called, CALLS - 1);
        Check.same(told(row, letters, kind), call(x, row), row[0]);
    }

    private static String told(Object[] row, String letters, String kind) {
        return row[1] + Arrays.toString(Arrays.copyOfRange(row, 2, row.length)) + " of '" + letters + "' behind 511 "
                + kind;
    }

    private static int append(LyndonText x, String letters) {
        for (char letter : letters.toCharArray()) {
            x.append(letter - 'a');
        }
        return letters.length();
    }

    private static Object call(LyndonText x, Object[] row) {
        return Edges.answer(x, (String) row[1], Arrays.copyOfRange(row, 2, row.length));
    }
}
