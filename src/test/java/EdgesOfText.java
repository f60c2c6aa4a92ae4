/** The boundary cases of the promises 12 to 15. */
final class EdgesOfText {
    private static final String ALMOST = Edges.FULL.substring(0, 63);

    private EdgesOfText() {
    }

    static void test() {
        length();
        letterAt();
        compareParts();
        compareAnswers();
        commonPrefix();
        commonPrefixAnswers();
    }

    private static void length() {
        Edges.sentence(12, "Returns the length of the text.");
        Edges.answers("", 0, "length");
        Edges.answers("c", 1, "length");
        Edges.answers(ALMOST, 63, "length");
        Edges.answers(Edges.FULL, 64, "length");
    }

    private static void letterAt() {
        Edges.sentence(13, "`place`: 0 or more, less than length()");
        Edges.answers("c", 2, "letterAt", 0);
        Edges.answers("abc", 0, "letterAt", 0);
        Edges.answers("abc", 2, "letterAt", 2);
        Edges.answers(Edges.FULL, 0, "letterAt", 0);
        Edges.answers(Edges.FULL, 11, "letterAt", 63);
        Edges.sentence(13, "Returns a letter.");
        Edges.answers("bcd", 2, "letterAt", 1);
        Edges.sentence(13, "Returns the letter.");
        Edges.answers("az", 0, "letterAt", 0);
        Edges.answers("az", 25, "letterAt", 1);
        Edges.sentence(13, "Throws `IndexOutOfBoundsException` if there is no such place");
        Edges.refuses("", Edges.INDEX, "letterAt", 0);
        Edges.refusesOutside("", 0, -1, Edges.INDEX, "letterAt", Edges.HERE);
        Edges.refusesOutside("c", 0, 0, Edges.INDEX, "letterAt", Edges.HERE);
        Edges.refusesOutside("abc", 0, 2, Edges.INDEX, "letterAt", Edges.HERE);
        Edges.refusesOutside(ALMOST, 0, 62, Edges.INDEX, "letterAt", Edges.HERE);
        Edges.refusesOutside(Edges.FULL, 0, 63, Edges.INDEX, "letterAt", Edges.HERE);
    }

    private static void compareParts() {
        Edges.sentence(14, "Compares two parts.");
        Edges.answers("cabac", 0, "compare", 1, 2, 3, 4);
        Edges.answers("cabac", -1, "compare", 1, 3, 3, 5);
        Edges.sentence(14, "`from`: the first place of the one");
        Edges.answers("abc", -1, "compare", 0, 2, 1, 2);
        Edges.answers("abc", 1, "compare", 2, 3, 1, 2);
        Edges.sentence(14, "`to`: the place behind it");
        Edges.answers("aab", 0, "compare", 0, 1, 1, 2);
        Edges.answers("aab", 1, "compare", 0, 2, 1, 2);
        Edges.answers("aab", 1, "compare", 1, 3, 0, 2);
        Edges.answers("aab", 1, "compare", 1, 3, 1, 2);
        Edges.sentence(14, "`otherFrom`: the first place of the other one");
        Edges.answers("abc", 1, "compare", 1, 2, 0, 2);
        Edges.answers("abc", -1, "compare", 1, 2, 2, 3);
        Edges.sentence(14, "`otherTo`: the place behind it");
        Edges.answers("aab", 0, "compare", 1, 2, 0, 1);
        Edges.answers("aab", -1, "compare", 1, 2, 0, 2);
        Edges.answers("aab", -1, "compare", 1, 2, 1, 3);
        Edges.sentence(14, "Throws `IndexOutOfBoundsException` if there is no such part");
        Edges.refusesNoPart("compare", Edges.FROM, Edges.TO, 0, 1);
        Edges.refusesNoPart("compare", 0, 1, Edges.FROM, Edges.TO);
        Edges.refusesNoPart("compare", Edges.FROM, Edges.TO, Edges.FROM, Edges.TO);
    }

    private static void compareAnswers() {
        Edges.sentence(14, "Returns -1 if the one is less, 1 if it is greater, 0 if they are the same.");
        Edges.answers("az", -1, "compare", 0, 1, 1, 2);
        Edges.answers("az", 1, "compare", 1, 2, 0, 1);
        Edges.answers("az", 0, "compare", 1, 2, 1, 2);
        Edges.answers("az", 0, "compare", 0, 2, 0, 2);
        // A word that begins the other, many letters longer: -1 and 1 for that too.
        Edges.answers(Edges.FULL, -1, "compare", 0, 1, 0, 64);
        Edges.answers(Edges.FULL, 1, "compare", 0, 64, 0, 1);
        Edges.answers(Edges.FULL, 0, "compare", 0, 64, 0, 64);
        Edges.answers(Edges.FULL, 0, "compare", 0, 12, 52, 64);
        Edges.answers(Edges.FULL, 1, "compare", 0, 13, 52, 64);
        // The first difference in the last letter.
        Edges.answers("aaabaaac", -1, "compare", 0, 4, 4, 8);
        Edges.answers("aaabaaac", 1, "compare", 4, 8, 0, 4);
    }

    private static void commonPrefix() {
        Edges.sentence(15, "`place`: 0 to length()");
        Edges.answers("", 0, "commonPrefix", 0, 0);
        Edges.answers("aab", 1, "commonPrefix", 0, 1);
        Edges.answers("aab", 0, "commonPrefix", 2, 0);
        Edges.answers("aab", 0, "commonPrefix", 3, 0);
        Edges.answers(Edges.FULL, 0, "commonPrefix", 64, 0);
        Edges.sentence(15, "`other`: 0 to length()");
        Edges.answers("aab", 1, "commonPrefix", 1, 0);
        Edges.answers("aab", 0, "commonPrefix", 0, 2);
        Edges.answers("aab", 0, "commonPrefix", 0, 3);
        Edges.answers("aab", 0, "commonPrefix", 3, 3);
        Edges.answers(Edges.FULL, 0, "commonPrefix", 0, 64);
        Edges.sentence(15, "Throws `IndexOutOfBoundsException` if there is no such place");
        for (String letters : new String[] {"", "c", "aab", Edges.FULL}) {
            int end = letters.length();
            Edges.refusesOutside(letters, 0, end, Edges.INDEX, "commonPrefix", Edges.HERE, 0);
            Edges.refusesOutside(letters, 0, end, Edges.INDEX, "commonPrefix", Edges.HERE, end);
            Edges.refusesOutside(letters, 0, end, Edges.INDEX, "commonPrefix", 0, Edges.HERE);
            Edges.refusesOutside(letters, 0, end, Edges.INDEX, "commonPrefix", end, Edges.HERE);
            Edges.refusesOutside(letters, 0, end, Edges.INDEX, "commonPrefix", Edges.HERE, Edges.HERE);
        }
    }

    private static void commonPrefixAnswers() {
        Edges.sentence(15, "Returns how many letters are the same from two places on.");
        Edges.answers("abcabd", 2, "commonPrefix", 0, 3);
        Edges.answers("abcabd", 2, "commonPrefix", 3, 0);
        Edges.answers("abcabd", 1, "commonPrefix", 1, 4);
        Edges.sentence(15, "Returns how many, up to the first difference or the end of the text.");
        Edges.answers("ab", 0, "commonPrefix", 0, 1);
        Edges.answers("aacaab", 2, "commonPrefix", 0, 3);
        Edges.answers("abaab", 2, "commonPrefix", 0, 3);
        Edges.answers("aaaa", 3, "commonPrefix", 0, 1);
        Edges.answers("aaaa", 1, "commonPrefix", 3, 0);
        Edges.answers("aaaa", 4, "commonPrefix", 0, 0);
        Edges.answers("aaaa", 1, "commonPrefix", 3, 3);
        Edges.answers("aaaa", 0, "commonPrefix", 4, 4);
        Edges.answers(Edges.same('c', 64), 64, "commonPrefix", 0, 0);
        Edges.answers(Edges.same('c', 64), 63, "commonPrefix", 0, 1);
        Edges.answers(Edges.same('c', 64), 1, "commonPrefix", 63, 0);
    }
}
