/** The boundary cases of the promises 34 to 40. */
final class EdgesOfRuns {
    private static final String SAME = Edges.same('b', 64);
    /** Its runs: the parts (0, 2), (0, 7) and (3, 5). */
    private static final String THREE = "aabaabac";
    /** The 32 runs of two letters each that stand one behind the other. */
    private static final String PAIRS = "aabbccddeeffgghhiijjkkllmmnnooppqqrrssttuuvvwwxxyyzzaabbccddeeff";

    private EdgesOfRuns() {
    }

    static void test() {
        runs();
        runStart();
        runEnd();
        runPeriod();
        runsOver();
        exponentsOfRuns();
        squares();
    }

    private static void runs() {
        Edges.sentence(34, "Returns how many runs the text has.");
        Edges.answers("", 0, "runs");
        Edges.answers("c", 0, "runs");
        Edges.answers("cd", 0, "runs");
        Edges.answers("cc", 1, "runs");
        Edges.answers("cdc", 0, "runs");
        Edges.answers(THREE, 3, "runs");
        Edges.answers(SAME, 1, "runs");
        Edges.answers(Edges.same('a', 63) + "b", 1, "runs");
        Edges.answers(Edges.FULL, 1, "runs");
        Edges.answers(Edges.FULL.substring(0, 52), 1, "runs");
        Edges.answers(Edges.FULL.substring(0, 51), 0, "runs");
        Edges.answers(PAIRS.substring(0, 52), 26, "runs");
        Edges.answers(PAIRS, 32, "runs");
    }

    private static void runStart() {
        Edges.sentence(35, "`run`: 0 or more, less than runs()");
        Edges.answers("caa", 1, "runStart", 0);
        Edges.answers(THREE, 0, "runStart", 0);
        Edges.answers(THREE, 3, "runStart", 2);
        Edges.answers(PAIRS, 0, "runStart", 0);
        Edges.answers(PAIRS, 62, "runStart", 31);
        Edges.sentence(35, "Returns the first place of a run.");
        Edges.answers(THREE, 0, "runStart", 1);
        Edges.sentence(35, "Returns the place.");
        Edges.answers(SAME, 0, "runStart", 0);
        Edges.answers(Edges.FULL.substring(0, 62) + "zz", 62, "runStart", 1);
        Edges.sentence(35, "Throws `IndexOutOfBoundsException` if there is no such run");
        noSuchRun("runStart");
    }

    private static void noSuchRun(String method) {
        Edges.refuses("", Edges.INDEX, method, 0);
        Edges.refuses("c", Edges.INDEX, method, 0);
        Edges.refusesOutside("", 0, -1, Edges.INDEX, method, Edges.HERE);
        Edges.refusesOutside("cdc", 0, -1, Edges.INDEX, method, Edges.HERE);
        Edges.refusesOutside("cc", 0, 0, Edges.INDEX, method, Edges.HERE);
        Edges.refusesOutside(THREE, 0, 2, Edges.INDEX, method, Edges.HERE);
        Edges.refusesOutside(SAME, 0, 0, Edges.INDEX, method, Edges.HERE);
        Edges.refusesOutside(PAIRS, 0, 31, Edges.INDEX, method, Edges.HERE);
    }

    private static void runEnd() {
        Edges.sentence(36, "`run`: 0 or more, less than runs()");
        Edges.answers("aac", 2, "runEnd", 0);
        Edges.answers(THREE, 2, "runEnd", 0);
        Edges.answers(THREE, 5, "runEnd", 2);
        Edges.answers(PAIRS, 2, "runEnd", 0);
        Edges.answers(PAIRS, 64, "runEnd", 31);
        Edges.sentence(36, "Returns the place behind the last letter of a run.");
        Edges.answers("aaa", 3, "runEnd", 0);
        Edges.answers("aaac", 3, "runEnd", 0);
        Edges.answers(THREE, 7, "runEnd", 1);
        Edges.sentence(36, "Returns the place.");
        Edges.answers(SAME, 64, "runEnd", 0);
        Edges.answers(Edges.same('b', 63) + "c", 63, "runEnd", 0);
        Edges.sentence(36, "Throws `IndexOutOfBoundsException` if there is no such run");
        noSuchRun("runEnd");
    }

    private static void runPeriod() {
        Edges.sentence(37, "`run`: 0 or more, less than runs()");
        Edges.answers("aac", 1, "runPeriod", 0);
        Edges.answers(THREE, 1, "runPeriod", 0);
        Edges.answers(THREE, 1, "runPeriod", 2);
        Edges.answers(PAIRS, 1, "runPeriod", 31);
        Edges.sentence(37, "Returns the least period of a run.");
        Edges.answers(THREE, 3, "runPeriod", 1);
        Edges.answers("aaaaaa", 1, "runPeriod", 0);
        Edges.answers("abababab", 2, "runPeriod", 0);
        Edges.sentence(37, "Returns the period.");
        Edges.answers(SAME, 1, "runPeriod", 0);
        String half = Edges.same('a', 31) + "b";
        Edges.answers(half + half, 32, "runPeriod", 1);
        Edges.sentence(37, "Throws `IndexOutOfBoundsException` if there is no such run");
        noSuchRun("runPeriod");
    }

    private static void runsOver() {
        Edges.sentence(38, "`place`: 0 or more, less than length()");
        Edges.answers("c", 0, "runsOver", 0);
        Edges.answers("aab", 1, "runsOver", 0);
        Edges.answers("baa", 1, "runsOver", 2);
        Edges.answers(SAME, 1, "runsOver", 0);
        Edges.answers(SAME, 1, "runsOver", 63);
        Edges.sentence(38, "Returns how many runs a place is in.");
        // The place next before a run, its first and its last one, and the one next behind.
        Edges.answers("bcaad", 0, "runsOver", 1);
        Edges.answers("bcaad", 1, "runsOver", 2);
        Edges.answers("bcaad", 1, "runsOver", 3);
        Edges.answers("bcaad", 0, "runsOver", 4);
        Edges.sentence(38, "Returns how many.");
        int[] due = {2, 2, 1, 2, 2, 1, 1, 0};
        for (int place = 0; place < due.length; place++) {
            Edges.answers(THREE, due[place], "runsOver", place);
        }
        Edges.answers("aabaabcaabaabc", 3, "runsOver", 0);
        Edges.sentence(38, "Throws `IndexOutOfBoundsException` if there is no such place");
        Edges.refuses("", Edges.INDEX, "runsOver", 0);
        Edges.refusesOutside("", 0, -1, Edges.INDEX, "runsOver", Edges.HERE);
        Edges.refusesOutside("c", 0, 0, Edges.INDEX, "runsOver", Edges.HERE);
        Edges.refusesOutside("aab", 0, 2, Edges.INDEX, "runsOver", Edges.HERE);
        Edges.refusesOutside(SAME, 0, 63, Edges.INDEX, "runsOver", Edges.HERE);
    }

    private static void exponentsOfRuns() {
        Edges.sentence(39, "Returns the sum of the exponents of all runs");
        Edges.answers("cc", 2.0, "exponentsOfRuns");
        Edges.answers("ababa", 2.5, "exponentsOfRuns");
        Edges.answers(THREE, 2.0 + 7.0 / 3.0 + 2.0, "exponentsOfRuns");
        Edges.answers(SAME, 64.0, "exponentsOfRuns");
        Edges.answers(PAIRS, 64.0, "exponentsOfRuns");
        Edges.sentence(39, "added in their order from 0.0 on");
        Edges.answers("", 0.0, "exponentsOfRuns");
        Edges.answers("c", 0.0, "exponentsOfRuns");
        Edges.answers("cdc", 0.0, "exponentsOfRuns");
        // Another order of these runs (the last one first, the least periods first, by their ends) gives another sum.
        double due = 0.0 + 5.0 / 2 + 7.0 / 3 + 16.0 / 7 + 2.0 + 9.0 / 4 + 3.0 + 8.0 / 3 + 2.0 + 3.0 + 2.0 + 2.0;
        double fromBehind = 0.0 + 2.0 + 2.0 + 3.0 + 2.0 + 8.0 / 3 + 3.0 + 9.0 / 4 + 2.0 + 16.0 / 7 + 7.0 / 3 + 5.0 / 2;
        Check.same("the order counts", due == fromBehind, false);
        Edges.answers("bababbabbbabbabbbaabba", due, "exponentsOfRuns");
    }

    private static void squares() {
        Edges.sentence(40, "a word of one letter or more, written twice");
        Edges.answers("", 0, "squares");
        Edges.answers("c", 0, "squares");
        Edges.answers("cd", 0, "squares");
        Edges.answers("cc", 1, "squares");
        Edges.answers("cdc", 0, "squares");
        Edges.answers("cdcd", 1, "squares");
        Edges.answers("cdcdc", 2, "squares");
        Edges.answers(Edges.FULL, 13, "squares");
        Edges.answers(Edges.FULL.substring(0, 51), 0, "squares");
        String half = Edges.FULL.substring(0, 26) + "bdfhjl";
        Edges.answers(half + half, 1, "squares");
        Edges.sentence(40, "that is not itself a power of a shorter word");
        Edges.answers("aaaa", 3, "squares");
        Edges.answers("abababab", 5, "squares");
        Edges.answers(SAME, 63, "squares");
        Edges.answers("ab".repeat(32), 61, "squares");
        Edges.sentence(40, "Parts at different places count, also if they have the same letters.");
        Edges.answers("aaa", 2, "squares");
        Edges.answers("aabaa", 2, "squares");
        Edges.answers(PAIRS, 32, "squares");
        Edges.answers(THREE, 4, "squares");
    }
}
