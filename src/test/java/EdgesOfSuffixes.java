/** The boundary cases of the promises 41 and 42. */
final class EdgesOfSuffixes {
    private static final String SAME = Edges.same('b', 64);
    /** From the least suffix on: a, aa, aabaa, abaa, baa. */
    private static final String FIVE = "aabaa";

    private EdgesOfSuffixes() {
    }

    static void test() {
        suffixAt();
        rankOf();
        askedAgain();
    }

    private static void suffixAt() {
        Edges.sentence(41, "Returns where a suffix of the text begins.");
        Edges.answers(FIVE, 0, "suffixAt", 2);
        Edges.sentence(41, "`rank`: 0 for the least suffix that is not empty, and so on; less than length()");
        Edges.answers("c", 0, "suffixAt", 0);
        Edges.answers("ba", 1, "suffixAt", 0);
        Edges.answers("ba", 0, "suffixAt", 1);
        Edges.answers(FIVE, 4, "suffixAt", 0);
        Edges.answers(FIVE, 3, "suffixAt", 1);
        Edges.answers(FIVE, 1, "suffixAt", 3);
        Edges.answers(FIVE, 2, "suffixAt", 4);
        Edges.answers(SAME, 63, "suffixAt", 0);
        Edges.answers(SAME, 0, "suffixAt", 63);
        Edges.sentence(41, "Returns its first place.");
        Edges.answers(Edges.same('a', 63) + "b", 0, "suffixAt", 0);
        Edges.answers(Edges.same('a', 63) + "b", 63, "suffixAt", 63);
        Edges.answers(Edges.same('b', 63) + "a", 63, "suffixAt", 0);
        Edges.answers(Edges.same('b', 63) + "a", 0, "suffixAt", 63);
        Edges.sentence(41, "Throws `IndexOutOfBoundsException` if there is no such rank");
        noSuchOne("suffixAt");
    }

    private static void noSuchOne(String method) {
        Edges.refuses("", Edges.INDEX, method, 0);
        Edges.refusesOutside("", 0, -1, Edges.INDEX, method, Edges.HERE);
        Edges.refusesOutside("c", 0, 0, Edges.INDEX, method, Edges.HERE);
        Edges.refusesOutside(FIVE, 0, 4, Edges.INDEX, method, Edges.HERE);
        Edges.refusesOutside(Edges.same('b', 63), 0, 62, Edges.INDEX, method, Edges.HERE);
        Edges.refusesOutside(SAME, 0, 63, Edges.INDEX, method, Edges.HERE);
    }

    /** What an object was asked of a longer text does not count for the shorter one that is left. */
    private static void askedAgain() {
        Edges.sentence(42, "Returns its rank.");
        LyndonText x = Check.textOf("abcde");
        for (int end = 5; end > 0; end--) {
            for (int place = 0; place < end; place++) {
                Check.same("rankOf(" + place + ") of " + end, Edges.answer(x, "rankOf", place), place);
                Check.same("suffixAt(" + place + ") of " + end, Edges.answer(x, "suffixAt", place), place);
            }
            Edges.answer(x, "remove", end - 1);
        }
        Edges.answer(x, "append", 3);
        Edges.answer(x, "append", 2);
        Check.same("rankOf(1) of dc", Edges.answer(x, "rankOf", 1), 0);
        Check.same("suffixAt(1) of dc", Edges.answer(x, "suffixAt", 1), 0);
    }

    private static void rankOf() {
        Edges.sentence(42, "Returns the rank of the suffix that begins at a place.");
        Edges.answers(FIVE, 4, "rankOf", 2);
        Edges.sentence(42, "`place`: 0 or more, less than length()");
        Edges.answers("c", 0, "rankOf", 0);
        Edges.answers("ba", 1, "rankOf", 0);
        Edges.answers("ba", 0, "rankOf", 1);
        Edges.answers(FIVE, 2, "rankOf", 0);
        Edges.answers(FIVE, 0, "rankOf", 4);
        Edges.answers(SAME, 63, "rankOf", 0);
        Edges.answers(SAME, 0, "rankOf", 63);
        Edges.sentence(42, "Returns its rank.");
        Edges.answers(FIVE, 3, "rankOf", 1);
        Edges.answers(FIVE, 1, "rankOf", 3);
        Edges.answers(Edges.same('a', 63) + "b", 63, "rankOf", 63);
        Edges.answers(Edges.same('b', 63) + "a", 0, "rankOf", 63);
        Edges.sentence(42, "Throws `IndexOutOfBoundsException` if there is no such place");
        noSuchOne("rankOf");
    }
}
