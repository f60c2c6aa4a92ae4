import java.util.Objects;

/** Counts what is not as it is due; a test ends with finish(). */
final class Check {
    private static int asked = 0;
    private static int wrong = 0;
    private static int shown = 0;
    private static int mostShown = 50;
    private static String about = "";

    static {
        Thread watch = new Thread(Check::endAtLast);
        watch.setDaemon(true);
        watch.start();
    }

    private Check() {
    }

    /** What the next answers are about stands ahead of each that is wrong; the first few of them are shown. */
    static void about(String words) {
        about = words + ": ";
        shown = 0;
        mostShown = 5;
    }

    static void same(String what, Object got, Object due) {
        asked++;
        if (!Objects.equals(got, due)) {
            wrong++;
            shown++;
            if (shown <= mostShown) {
                System.out.println(about + what + " answered " + got + ", due is " + due);
            }
        }
    }

    /** A call that does not end fails the test too. */
    private static void endAtLast() {
        try {
            Thread.sleep(300_000);
        } catch (InterruptedException e) {
            return;
        }
        System.out.println(about + "no end behind " + asked + " answers");
        Runtime.getRuntime().halt(1);
    }

    static int asked() {
        return asked;
    }

    /** Calls, which must throw just this class, and leave the text as it was. */
    static void refused(String what, LyndonText x, Class<?> due, Runnable call) {
        String before = lettersOf(x);
        Object got = "no exception";
        try {
            call.run();
        } catch (RuntimeException e) {
            got = e.getClass();
        }
        same(what, got, due);
        same(what + ": the text behind it", lettersOf(x), before);
    }

    static String lettersOf(LyndonText x) {
        StringBuilder letters = new StringBuilder();
        // Asked once: an object has no more than 512 calls.
        int length = x.length();
        for (int place = 0; place < length; place++) {
            letters.append((char) ('a' + x.letterAt(place)));
        }
        return letters.toString();
    }

    static LyndonText textOf(String letters) {
        LyndonText x = new LyndonText();
        for (int place = 0; place < letters.length(); place++) {
            x.append(letters.charAt(place) - 'a');
        }
        return x;
    }

    static void finish(String test) {
        System.out.println(test + ": " + asked + " answers, " + wrong + " of them wrong");
        if (wrong != 0) {
            System.exit(1);
        }
    }
}
