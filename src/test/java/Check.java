import java.util.Objects;

/** Counts what is not as it is due; a test ends with finish(). */
final class Check {
    private static int asked = 0;
    private static int wrong = 0;

    private Check() {
    }

    static void same(String what, Object got, Object due) {
        asked++;
        if (!Objects.equals(got, due)) {
            wrong++;
            if (wrong <= 50) {
                System.out.println(what + " answered " + got + ", due is " + due);
            }
        }
    }

    /** Calls, which must throw just this class, and leave the text as it was. */
    static void refused(String what, LyndonText x, Class<?> due, Runnable call) {
        String before = lettersOf(x);
        Object got = "no exception";
        try {
            call.run();
        } catch (RuntimeException e) {
            got = e.getClass();
        }
        same(what, got, due);
        same(what + ": the text behind it", lettersOf(x), before);
    }

    static String lettersOf(LyndonText x) {
        StringBuilder letters = new StringBuilder();
        for (int place = 0; place < x.length(); place++) {
            letters.append((char) ('a' + x.letterAt(place)));
        }
        return letters.toString();
    }

    static LyndonText textOf(String letters) {
        LyndonText x = new LyndonText();
        for (int place = 0; place < letters.length(); place++) {
            x.append(letters.charAt(place) - 'a');
        }
        return x;
    }

    static void finish(String test) {
        System.out.println(test + ": " + asked + " answers, " + wrong + " of them wrong");
        if (wrong != 0) {
            System.exit(1);
        }
    }
}
