import java.lang.reflect.InvocationTargetException;
import java.lang.reflect.Method;
import java.lang.reflect.Modifier;
import java.util.Arrays;
import java.util.HashMap;
import java.util.Map;

/**
 * What the tests of the boundary cases share. Each test begins with the words of the document that it is for; what
 * it then asks bears the promise and these words. Each call is made on objects of its own, once on one whose text
 * was never longer and once on one whose text was full before, so that nothing behind the end counts, and no object
 * comes to its 513th call.
 */
final class Edges {
    static final Class<?> INDEX = IndexOutOfBoundsException.class;
    static final Class<?> ARGUMENT = IllegalArgumentException.class;
    static final Class<?> STATE = IllegalStateException.class;

    static final String FULL = "abcdefghijklmnopqrstuvwxyzabcdefghijklmnopqrstuvwxyzabcdefghijkl";

    /** Stand among the arguments for those that are tried out. */
    static final Object HERE = "here";
    static final Object FROM = "from";
    static final Object TO = "to";

    private static final Map<String, Method> FACE = new HashMap<>();

    private static Sentences document = null;
    private static int askedBefore = 0;

    static {
        for (Method method : LyndonText.class.getDeclaredMethods()) {
            if (Modifier.isPublic(method.getModifiers())) {
                FACE.put(method.getName(), method);
            }
        }
    }

    private Edges() {
    }

    static void begin(Sentences sentences) {
        document = sentences;
    }

    /** Begins the test of a sentence, or of a part of one; promise 0 is what stands ahead of the promises. */
    static void sentence(int promise, String words) {
        end();
        Check.about((promise == 0 ? "ahead of the promises" : "promise " + promise) + ", '" + words + "'");
        Check.same("the sentence stands in the document", document.take(promise, words), true);
        askedBefore = Check.asked();
    }

    /** Ends the test of the last sentence, which must have asked something. */
    static void end() {
        Check.same("the sentence has a test", askedBefore == 0 || Check.asked() > askedBefore, true);
    }

    /** A question: its answer, and the text is as it was. */
    static void answers(String letters, Object due, String method, Object... arguments) {
        edits(letters, letters, due, method, arguments);
    }

    /** A question about a part: the same whatever stands before and behind it. */
    static void answersInside(String part, Object due, String method, Object... more) {
        for (String[] around : around(part)) {
            answersAmid(around, part, due, method, more);
        }
    }

    /** A question about a part that answers a place of it, told in the text. */
    static void placesInside(String part, int due, String method) {
        for (String[] around : around(part)) {
            answersAmid(around, part, around[0].length() + due, method);
        }
    }

    private static String[][] around(String part) {
        return new String[][] {{"", ""}, {"a", "a"}, {"b", "b"}, {"c", "a"}, {"a", "c"}, {"ab", "ba"}, {"bbb", "aaa"},
            {part, part}};
    }

    private static void answersAmid(String[] around, String part, Object due, String method, Object... more) {
        Object[] arguments = new Object[2 + more.length];
        arguments[0] = around[0].length();
        arguments[1] = around[0].length() + part.length();
        System.arraycopy(more, 0, arguments, 2, more.length);
        answers(around[0] + part + around[1], due, method, arguments);
    }

    /** A call that throws just this class and changes nothing. */
    static void refuses(String letters, Class<?> due, String method, Object... arguments) {
        edits(letters, letters, due, method, arguments);
    }

    static void edits(String letters, String lettersThen, Object due, String method, Object... arguments) {
        for (boolean wasFull : new boolean[] {false, true}) {
            String what = method + Arrays.toString(arguments) + " of '" + letters + "'"
                    + (wasFull ? ", which was full before" : "");
            try {
                LyndonText x = made(letters, wasFull);
                Check.same(what, answer(x, method, arguments), due);
                Check.same(what + ", and the text then", Check.lettersOf(x), lettersThen);
            } catch (RuntimeException e) {
                // The calls around the one that is tested threw: the other sentences are still to be tested.
                Check.same(what + ", and the calls around it", e.getClass(), "no exception");
            }
        }
    }

    /** An argument is refused next below and next above its range, and as the least and the greatest int. */
    static void refusesOutside(String letters, int least, int most, Class<?> due, String method, Object... arguments) {
        for (int value : new int[] {least - 1, most + 1, Integer.MIN_VALUE, Integer.MAX_VALUE}) {
            refuses(letters, due, method, with(arguments, HERE, value));
        }
    }

    /** Every kind of part that is none, of an empty text, of one letter, of five and of 64. */
    static void refusesNoPart(String method, Object... arguments) {
        int least = Integer.MIN_VALUE;
        int most = Integer.MAX_VALUE;
        for (String letters : new String[] {"", "a", "aabab", FULL}) {
            int end = letters.length();
            int[][] parts = {{0, 0}, {end / 2, end / 2}, {end, end}, {end, end + 1}, {end - 1, end + 1}, {0, end + 1},
                {-1, 0}, {-1, 1}, {-1, end}, {-2, -1}, {1, 0}, {2, 1}, {end, end - 1}, {0, -1}, {0, least}, {0, most},
                {least, 1}, {least, end}, {least, least}, {least, most}, {most, least}, {most, most},
                {most - 1, most}, {end, most}, {end - 1, least}};
            for (int[] part : parts) {
                refuses(letters, INDEX, method, with(with(arguments, FROM, part[0]), TO, part[1]));
            }
        }
    }

    static Object answer(LyndonText x, String method, Object... arguments) {
        try {
            return FACE.get(method).invoke(x, arguments);
        } catch (InvocationTargetException e) {
            return e.getCause().getClass();
        } catch (IllegalAccessException e) {
            return e.getClass();
        }
    }

    static Object[] with(Object[] arguments, Object mark, Object value) {
        Object[] replaced = arguments.clone();
        for (int i = 0; i < replaced.length; i++) {
            if (replaced[i] == mark) {
                replaced[i] = value;
            }
        }
        return replaced;
    }

    static String same(char letter, int count) {
        return String.valueOf(letter).repeat(count);
    }

    /** What is left behind the end is the text again and again, as what would mislead most. */
    private static LyndonText made(String letters, boolean wasFull) {
        LyndonText x = Check.textOf(letters);
        int length = letters.length();
        if (wasFull) {
            for (int place = length; place < 64; place++) {
                x.append(length == 0 ? 0 : letters.charAt(place % length) - 'a');
            }
            for (int place = 63; place >= length; place--) {
                x.remove(place);
            }
        }
        return x;
    }
}
