/** The boundary cases that "Words" names ahead of the promises. */
final class EdgesOfWords {
    private EdgesOfWords() {
    }

    static void test() {
        atMost64Letters();
        numbersOfLetters();
        placesFromNought();
        partsThatAreNone();
        wholeTextAsPart();
        order();
        reversedOrder();
        lyndonWords();
        factors();
        rotationsAndNecklaces();
        periodsBordersRoots();
        runs();
        orderOfRuns();
    }

    private static void atMost64Letters() {
        String almost = Edges.FULL.substring(0, 63);
        Edges.sentence(0, "The text has at most 64 letters");
        Edges.edits(almost, almost + "z", 64, "append", 25);
        Edges.edits(almost, "z" + almost, 64, "insert", 0, 25);
        Edges.edits(almost, almost + "a", 64, "appendPart", 0, 1);
        Edges.answers(almost, 63, "length");
        Edges.answers(Edges.FULL, 64, "length");
        Edges.answers(Edges.FULL, 11, "letterAt", 63);
        Edges.refuses(Edges.FULL, Edges.STATE, "append", 25);
        Edges.refuses(Edges.FULL, Edges.STATE, "insert", 0, 25);
        Edges.refuses(Edges.FULL, Edges.STATE, "insert", 64, 25);
        Edges.refuses(Edges.FULL, Edges.STATE, "appendPart", 0, 1);
        Edges.refuses(Edges.FULL, Edges.ARGUMENT, "loadDeBruijn", 3, 4);
    }

    private static void numbersOfLetters() {
        Edges.sentence(0, "each a number from 0 to 25");
        Edges.edits("bc", "bca", 3, "append", 0);
        Edges.edits("bc", "bcz", 3, "append", 25);
        Edges.edits("bc", "abc", 3, "insert", 0, 0);
        Edges.edits("bc", "zbc", 3, "insert", 0, 25);
        Edges.edits("bc", "ac", 1, "set", 0, 0);
        Edges.edits("bc", "zc", 1, "set", 0, 25);
        Edges.answers("az", 0, "letterAt", 0);
        Edges.answers("az", 25, "letterAt", 1);
        Edges.refusesOutside("bc", 0, 25, Edges.ARGUMENT, "append", Edges.HERE);
        Edges.refusesOutside("bc", 0, 25, Edges.ARGUMENT, "insert", 0, Edges.HERE);
        Edges.refusesOutside("bc", 0, 25, Edges.ARGUMENT, "set", 0, Edges.HERE);
    }

    private static void placesFromNought() {
        Edges.sentence(0, "places are counted from 0");
        Edges.answers("cab", 2, "letterAt", 0);
        Edges.answers("cab", 1, "letterAt", 2);
        Edges.refuses("cab", Edges.INDEX, "letterAt", 3);
        Edges.answers("cab", 0, "factorStart", 0);
        Edges.answers("aab", 0, "runStart", 0);
        Edges.answers("aab", 0, "suffixAt", 0);
        Edges.answers("cab", 1, "suffixAt", 0);
        Edges.answers("aab", 1, "standardFactor", 0, 3);
    }

    private static void partsThatAreNone() {
        Edges.sentence(0, "parts are not empty: 0 <= from < to <= length()");
        for (String method : new String[] {"appendPart", "isLyndon", "standardFactor", "leastRotation",
            "greatestRotation", "rotations", "isNecklace", "period", "periodByTrying", "periods", "border",
            "rootLength", "exponent"}) {
            Edges.refusesNoPart(method, Edges.FROM, Edges.TO);
        }
        Edges.refusesNoPart("isPeriod", Edges.FROM, Edges.TO, 1);
        Edges.refusesNoPart("necklaceNumber", Edges.FROM, Edges.TO, 4);
        Edges.refusesNoPart("compare", Edges.FROM, Edges.TO, 0, 1);
        Edges.refusesNoPart("compare", 0, 1, Edges.FROM, Edges.TO);
    }

    /** The least from with the greatest to, and parts of one letter at both ends of a text. */
    private static void wholeTextAsPart() {
        String[] methods = {"isLyndon", "leastRotation", "greatestRotation", "rotations", "isNecklace", "period",
            "periodByTrying", "periods", "border", "rootLength", "exponent"};
        Object[] ofOne = {true, 0, 0, 1, true, 1, 1, 1, 0, 1, 1.0};
        Object[] ofFull = {false, 52, 25, 64, false, 26, 26, 3, 38, 64, 64.0 / 26};
        Edges.sentence(0, "A part of the text is given by its first place and the place behind its last letter");
        for (int i = 0; i < methods.length; i++) {
            Edges.answers("c", ofOne[i], methods[i], 0, 1);
            Edges.answers(Edges.FULL, ofOne[i], methods[i], 0, 1);
            Edges.answers(Edges.FULL, ofOne[i], methods[i], 63, 64);
            Edges.answers(Edges.FULL, ofFull[i], methods[i], 0, 64);
        }
        Edges.answers(Edges.FULL, true, "isPeriod", 63, 64, 1);
        Edges.answers(Edges.FULL, -1, "compare", 0, 1, 63, 64);
        Edges.answers(Edges.FULL, 0, "compare", 0, 64, 0, 64);
        Edges.answers(Edges.same('a', 64), 0, "necklaceNumber", 63, 64, 1);
        Edges.answers(Edges.same('a', 63) + "b", 1, "standardFactor", 0, 64);
        Edges.answers(Edges.same('a', 63) + "b", 63, "standardFactor", 62, 64);
        Edges.edits("c", "cc", 2, "appendPart", 0, 1);
    }

    private static void order() {
        Edges.sentence(0, "Words are compared letter by letter, from the first one on");
        Edges.answers("azba", -1, "compare", 0, 2, 2, 4);
        Edges.answers("azba", 1, "compare", 2, 4, 0, 2);
        Edges.answers("bab", 1, "suffixAt", 0);
        Edges.sentence(0, "the word with the lesser letter at the first difference is less");
        Edges.answers("abaazz", 1, "compare", 0, 2, 2, 6);
        Edges.answers("abaazz", -1, "compare", 2, 6, 0, 2);
        Edges.answers("yz", -1, "compare", 0, 1, 1, 2);
        Edges.answers("az", -1, "compare", 0, 1, 1, 2);
        Edges.sentence(0, "if there is none, the shorter word is less");
        Edges.answers("aa", -1, "compare", 0, 1, 0, 2);
        Edges.answers("aa", 1, "compare", 0, 2, 1, 2);
        Edges.answers(Edges.FULL, -1, "compare", 0, 63, 0, 64);
        Edges.answers(Edges.FULL, 1, "compare", 0, 64, 0, 63);
        Edges.answers(Edges.FULL, 0, "compare", 0, 38, 26, 64);
        Edges.answers("aab", -1, "compare", 0, 1, 0, 3);
        Edges.answers("aa", 1, "suffixAt", 0);
        Edges.answers("aa", 1, "rankOf", 0);
        Edges.answers("aba", false, "isLyndon", 0, 3);
    }

    private static void reversedOrder() {
        Edges.sentence(0, "In the reversed order of letters 25 is the least letter and 0 the greatest");
        Edges.answers("za", 2, "longestLyndon", 0, true);
        Edges.answers("zy", 2, "longestLyndon", 0, true);
        Edges.answers("ba", 2, "longestLyndon", 0, true);
        Edges.answers("az", 1, "longestLyndon", 0, true);
        Edges.answers("yz", 1, "longestLyndon", 0, true);
        Edges.answers("zyxa", 4, "longestLyndon", 0, true);
        Edges.answers("za", 1, "longestLyndon", 0, false);
        Edges.sentence(0, "a word still comes ahead of a longer one that begins with it");
        Edges.answers("bb", 1, "longestLyndon", 0, true);
        Edges.answers("bab", 2, "longestLyndon", 0, true);
        Edges.answers("bba", 3, "longestLyndon", 0, true);
        Edges.answers("bbabba", 3, "longestLyndon", 0, true);
        Edges.answers(Edges.same('z', 64), 1, "longestLyndon", 0, true);
        Edges.answers(Edges.same('z', 63) + "a", 64, "longestLyndon", 0, true);
    }

    private static void lyndonWords() {
        Edges.sentence(0, "A Lyndon word is a word of one letter or more");
        Edges.answers("a", true, "isLyndon", 0, 1);
        Edges.answers("z", true, "isLyndon", 0, 1);
        Edges.answers("z", 1, "longestLyndon", 0, false);
        Edges.answers("z", 1, "longestLyndon", 0, true);
        Edges.answers("z", 1, "factors");
        Edges.sentence(0, "less than each of its suffixes that is not empty and not the word itself");
        Edges.answers("ab", true, "isLyndon", 0, 2);
        Edges.answers("aa", false, "isLyndon", 0, 2);
        Edges.answers("ba", false, "isLyndon", 0, 2);
        Edges.answers("abab", false, "isLyndon", 0, 4);
        Edges.answers("aaba", false, "isLyndon", 0, 4);
        Edges.answers("abac", true, "isLyndon", 0, 4);
        Edges.answers(Edges.same('a', 63) + "b", true, "isLyndon", 0, 64);
        Edges.answers(Edges.same('a', 62) + "ba", false, "isLyndon", 0, 64);
    }

    private static void factors() {
        Edges.sentence(0, "a row of Lyndon words none of which is greater than the one before it");
        Edges.answers("aa", 2, "factors");
        Edges.answers("ab", 1, "factors");
        Edges.answers("ba", 2, "factors");
        Edges.answers("abab", 2, "factors");
        Edges.answers("abab", 2, "factorStart", 1);
        Edges.answers("ababb", 1, "factors");
        Edges.answers("aba", 2, "factors");
        Edges.answers(Edges.same('b', 64), 64, "factors");
        Edges.answers(Edges.same('a', 63) + "b", 1, "factors");
        Edges.answers("b" + Edges.same('a', 63), 64, "factors");
    }

    private static void rotationsAndNecklaces() {
        Edges.sentence(0, "A rotation of a word by k letters, k from 0 to its length less 1");
        Edges.answers("abbb", 0, "leastRotation", 0, 4);
        Edges.answers("bbba", 3, "leastRotation", 0, 4);
        Edges.answers("baaa", 0, "greatestRotation", 0, 4);
        Edges.answers("aaab", 3, "greatestRotation", 0, 4);
        Edges.answers(Edges.same('b', 63) + "a", 63, "leastRotation", 0, 64);
        Edges.answers(Edges.same('a', 63) + "b", 63, "greatestRotation", 0, 64);
        Edges.answers("bbba", 4, "rotations", 0, 4);
        Edges.sentence(0, "has its letters from the place k on, and then its first k letters");
        Edges.edits("abcd", "bcda", 1, "rotate", 1);
        Edges.edits("abcd", "dabc", 3, "rotate", 3);
        Edges.edits("abcd", "abcd", 0, "rotate", 0);
        // Only going round behind the end tells which of two is the least: aab or aba.
        Edges.answers("abaa", 2, "leastRotation", 0, 4);
        Edges.answers("babb", 2, "greatestRotation", 0, 4);
        Edges.sentence(0, "A necklace is a word that is not greater than any of its rotations");
        Edges.answers("a", true, "isNecklace", 0, 1);
        Edges.answers("aa", true, "isNecklace", 0, 2);
        Edges.answers("abab", true, "isNecklace", 0, 4);
        Edges.answers("aba", false, "isNecklace", 0, 3);
        Edges.answers("ba", false, "isNecklace", 0, 2);
        Edges.answers(Edges.same('z', 64), true, "isNecklace", 0, 64);
        Edges.answers(Edges.same('z', 63) + "y", false, "isNecklace", 0, 64);
    }

    private static void periodsBordersRoots() {
        Edges.sentence(0, "A number p from 1 to the length of a word is a period");
        Edges.answers("aab", true, "isPeriod", 0, 2, 1);
        Edges.answers("aab", false, "isPeriod", 0, 3, 1);
        Edges.refusesOutside("aab", 1, 2, Edges.ARGUMENT, "isPeriod", 0, 2, Edges.HERE);
        Edges.sentence(0, "the length is always one");
        Edges.answers("a", true, "isPeriod", 0, 1, 1);
        Edges.answers("abc", true, "isPeriod", 0, 3, 3);
        Edges.answers("abc", 3, "period", 0, 3);
        Edges.answers("abc", 3, "periodByTrying", 0, 3);
        Edges.answers("abc", 1, "periods", 0, 3);
        Edges.answers(Edges.FULL, true, "isPeriod", 0, 64, 64);
        Edges.answers(Edges.same('a', 63) + "b", 64, "period", 0, 64);
        Edges.sentence(0, "A border of a word is a shorter word, perhaps empty");
        Edges.answers("a", 0, "border", 0, 1);
        Edges.answers("aa", 1, "border", 0, 2);
        Edges.answers("ab", 0, "border", 0, 2);
        Edges.answers("aba", 1, "border", 0, 3);
        Edges.answers(Edges.same('a', 64), 63, "border", 0, 64);
        Edges.sentence(0, "a power (written one or more times, one after the other)");
        Edges.answers("a", 1, "rootLength", 0, 1);
        Edges.answers("abc", 3, "rootLength", 0, 3);
        Edges.answers("aba", 3, "rootLength", 0, 3);
        Edges.answers("abab", 2, "rootLength", 0, 4);
        Edges.answers("aaaa", 1, "rootLength", 0, 4);
        Edges.answers(Edges.same('a', 63) + "b", 64, "rootLength", 0, 64);
        Edges.answers(Edges.FULL.substring(0, 32) + Edges.FULL.substring(0, 32), 32, "rootLength", 0, 64);
    }

    private static void runs() {
        String half = Edges.same('a', 31) + "b";
        Edges.sentence(0, "with a least period p");
        Edges.answers("aaaa", 1, "runs");
        Edges.answers("abababab", 1, "runs");
        Edges.answers("abababab", 2, "runPeriod", 0);
        Edges.answers(Edges.same('c', 64), 1, "runs");
        Edges.sentence(0, "the part is at least 2 * p long");
        Edges.answers("a", 0, "runs");
        Edges.answers("aa", 1, "runs");
        Edges.answers("aba", 0, "runs");
        Edges.answers("abab", 1, "runs");
        Edges.answers("abcab", 0, "runs");
        Edges.answers("abcabc", 1, "runs");
        Edges.answers(half + half, 3, "runs");
        Edges.answers(half + half, 32, "runPeriod", 1);
        Edges.answers(half + Edges.same('a', 31), 2, "runs");
        Edges.sentence(0, "neither the letter before it nor the letter behind it (if there is one) can be added");
        sameRun("caab", 1, 3, 1);
        sameRun("aab", 0, 2, 1);
        sameRun("caa", 1, 3, 1);
        sameRun("aaa", 0, 3, 1);
        sameRun("cababd", 1, 5, 2);
        sameRun("cababad", 1, 6, 2);
        sameRun("ababa", 0, 5, 2);
        sameRun(Edges.same('c', 64), 0, 64, 1);
        sameRun("d" + Edges.same('c', 62) + "d", 1, 63, 1);
        sameRun(Edges.FULL, 0, 64, 26);
    }

    private static void sameRun(String letters, int start, int end, int period) {
        Edges.answers(letters, 1, "runs");
        Edges.answers(letters, start, "runStart", 0);
        Edges.answers(letters, end, "runEnd", 0);
        Edges.answers(letters, period, "runPeriod", 0);
    }

    private static void orderOfRuns() {
        Edges.sentence(0, "Runs are ordered by their first places");
        sameRuns("aabb", new int[][] {{0, 2, 1}, {2, 4, 1}});
        // The later run has the lesser period, and ends earlier.
        sameRuns("abaaba", new int[][] {{0, 6, 3}, {2, 4, 1}});
        Edges.sentence(0, "of several with the same one the lesser period comes first");
        sameRuns("aabaab", new int[][] {{0, 2, 1}, {0, 6, 3}, {3, 5, 1}});
        sameRuns("aabaabcaabaabc", new int[][] {{0, 2, 1}, {0, 6, 3}, {0, 14, 7}, {3, 5, 1}, {7, 9, 1}, {7, 13, 3},
            {10, 12, 1}});
        sameRuns("bababbabbbabbabbbaabba", new int[][] {{0, 5, 2}, {2, 9, 3}, {2, 18, 7}, {4, 6, 1}, {4, 13, 4},
            {7, 10, 1}, {8, 16, 3}, {11, 13, 1}, {14, 17, 1}, {17, 19, 1}, {19, 21, 1}});
    }

    private static void sameRuns(String letters, int[][] due) {
        Edges.answers(letters, due.length, "runs");
        for (int run = 0; run < due.length; run++) {
            Edges.answers(letters, due[run][0], "runStart", run);
            Edges.answers(letters, due[run][1], "runEnd", run);
            Edges.answers(letters, due[run][2], "runPeriod", run);
        }
    }
}
