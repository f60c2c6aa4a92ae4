import java.lang.reflect.InvocationTargetException;
import java.lang.reflect.Method;
import java.util.ArrayList;
import java.util.Arrays;
import java.util.Comparator;
import java.util.List;

/**
 * Runs of 512 calls on fresh objects, drawn by a fixed row of numbers, each answer held against PlainText. Every
 * method is drawn, with arguments in range, at its edges and outside it; the last calls read the whole text.
 */
final class RandomRunsTest {
    private static final int RUNS = 600;
    private static final int CALLS = 512 - 65;

    private static long seed = 20261119L;

    private RandomRunsTest() {
    }

    public static void main(String[] args) throws Exception {
        List<Method> edits = new ArrayList<>();
        List<Method> questions = new ArrayList<>();
        for (Method method : sorted(LyndonText.class.getDeclaredMethods())) {
            if (java.lang.reflect.Modifier.isPublic(method.getModifiers())) {
                (isEdit(method.getName()) ? edits : questions).add(method);
            }
        }
        Check.same("edits", edits.size(), 10);
        Check.same("questions", questions.size(), 34);
        for (int run = 0; run < RUNS; run++) {
            oneRun(run, edits, questions);
        }
        Check.finish("RandomRunsTest");
    }

    private static List<Method> sorted(Method[] methods) {
        List<Method> all = new ArrayList<>(Arrays.asList(methods));
        all.sort(Comparator.comparing(Method::getName));
        return all;
    }

    private static boolean isEdit(String name) {
        return Arrays.asList("append", "insert", "set", "remove", "clear", "reverse", "rotate", "appendPart",
                "loadDeBruijn", "loadNecklace").contains(name);
    }

    private static void oneRun(int run, List<Method> edits, List<Method> questions) throws Exception {
        LyndonText x = new LyndonText();
        PlainText plain = new PlainText();
        int kinds = new int[] {1, 2, 2, 3, 4, 26}[draw(6)];
        for (int call = 0; call < CALLS; call++) {
            Method method;
            if (draw(100) < 45) {
                method = plain.letters().length() < 30 && draw(3) > 0 ? edits.get(draw(2)) : edits.get(draw(10));
            } else {
                method = questions.get(draw(questions.size()));
            }
            // An emptied text has little to ask about.
            if (method.getName().equals("clear") && draw(4) > 0) {
                continue;
            }
            Object[] arguments = argumentsOf(method, plain, kinds);
            String what = "run " + run + ": " + method.getName() + Arrays.toString(arguments)
                    + " on " + plain.letters();
            Object due = answer(PlainText.class.getMethod(method.getName(), method.getParameterTypes()),
                    plain, arguments);
            Check.same(what, answer(method, x, arguments), due);
        }
        Check.same("run " + run + ": the text at its end", Check.lettersOf(x), plain.letters());
    }

    private static Object answer(Method method, Object on, Object[] arguments) throws IllegalAccessException {
        try {
            return method.invoke(on, arguments);
        } catch (InvocationTargetException e) {
            return e.getCause().getClass();
        }
    }

    private static Object[] argumentsOf(Method method, PlainText plain, int kinds) {
        int length = plain.letters().length();
        int from = between(0, Math.max(0, length - 1));
        int to = from + 1 + (length > from ? draw(Math.min(length - from, draw(2) == 0 ? 64 : 9)) : 0);
        int other = between(0, Math.max(0, length - 1));
        int letter = draw(kinds);
        switch (method.getName()) {
            case "append":
                return new Object[] {letterLike(letter)};
            case "insert":
                return new Object[] {near(0, length), letterLike(letter)};
            case "set":
                return new Object[] {near(0, length - 1), letterLike(letter)};
            case "remove":
            case "letterAt":
            case "factorOver":
            case "runsOver":
            case "suffixAt":
            case "rankOf":
                return new Object[] {near(0, length - 1)};
            case "rotate":
                return new Object[] {near(0, 63)};
            case "loadDeBruijn":
                return new Object[] {near(1, draw(2) == 0 ? 8 : 2), near(1, draw(2) == 0 ? 6 : 2)};
            case "loadNecklace":
                return necklaceArguments();
            case "compare":
                return partLike(length, from, to, off(other), off(between(other + 1, Math.max(other + 1, length))));
            case "commonPrefix":
                return new Object[] {near(0, length), near(0, length)};
            case "factorStart":
            case "factorLength":
                return new Object[] {near(0, plain.factors() - 1)};
            case "longestLyndon":
                return new Object[] {near(0, length - 1), draw(2) == 0};
            case "isPeriod":
                return partLike(length, from, to, near(1, Math.max(1, to - from)));
            case "runStart":
            case "runEnd":
            case "runPeriod":
                return new Object[] {near(0, plain.runs() - 1)};
            case "necklaces":
            case "lyndonWords":
                return new Object[] {near(1, 10), near(1, 12)};
            case "necklaceNumber":
                return partLike(length, from, Math.min(to, from + 1 + draw(10)), near(1, 4));
            default:
                return method.getParameterCount() == 0 ? new Object[0] : partLike(length, from, to);
        }
    }

    private static Object[] necklaceArguments() {
        int letters = between(1, 4);
        int size = between(1, 8);
        int count = PlainText.allNecklaces(letters, size).size();
        return new Object[] {off(letters), off(size), near(0, count - 1)};
    }

    /** A part that mostly is one, with the arguments behind it. */
    private static Object[] partLike(int length, int from, int to, Object... more) {
        Object[] all = new Object[2 + more.length];
        int kind = draw(12);
        all[0] = kind == 0 ? 0 : off(from);
        all[1] = kind <= 1 ? length : off(to);
        if (draw(40) == 0) {
            all[1] = all[0];
        }
        System.arraycopy(more, 0, all, 2, more.length);
        return all;
    }

    private static int letterLike(int letter) {
        int kind = draw(40);
        return kind == 0 ? -1 : kind == 1 ? 26 : kind == 2 ? 25 : kind == 3 ? Integer.MIN_VALUE : letter;
    }

    /** The value itself, but now and then one that is far or near outside. */
    private static int off(int value) {
        int[] outside = {-1, Integer.MIN_VALUE, Integer.MAX_VALUE, 65, 0, value - 1, value + 1};
        return draw(20) == 0 ? outside[draw(outside.length)] : value;
    }

    private static int near(int least, int most) {
        int kind = draw(16);
        if (kind == 0) {
            return least - 1;
        }
        if (kind == 1) {
            return most + 1;
        }
        if (kind == 2) {
            return draw(2) == 0 ? Integer.MIN_VALUE : Integer.MAX_VALUE;
        }
        return kind == 3 ? least : kind == 4 ? most : between(least, Math.max(least, most));
    }

    private static int between(int least, int most) {
        return least + draw(most - least + 1);
    }

    private static int draw(int count) {
        seed = seed * 6364136223846793005L + 1442695040888963407L;
        return (int) Math.floorMod(seed >>> 33, (long) count);
    }
}
