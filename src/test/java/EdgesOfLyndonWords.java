/** The boundary cases of the promises 16 to 22. */
final class EdgesOfLyndonWords {
    private static final String RISING = Edges.same('a', 63) + "b";
    private static final String SAME = Edges.same('b', 64);

    private EdgesOfLyndonWords() {
    }

    static void test() {
        isLyndon();
        factors();
        factorStart();
        factorLength();
        factorOver();
        longestLyndon();
        longestLyndonRefused();
        standardFactor();
        standardFactorRefused();
    }

    private static void isLyndon() {
        Edges.sentence(16, "Tells whether a part is a Lyndon word.");
        Edges.answers("c", true, "isLyndon", 0, 1);
        Edges.answers(RISING, true, "isLyndon", 0, 64);
        Edges.answers(SAME, false, "isLyndon", 0, 64);
        Edges.sentence(16, "`from`: the first place");
        Edges.answers("aab", true, "isLyndon", 0, 3);
        Edges.answers("caab", false, "isLyndon", 0, 4);
        Edges.answers("caab", true, "isLyndon", 1, 4);
        Edges.answers("caab", true, "isLyndon", 3, 4);
        Edges.sentence(16, "`to`: the place behind the last letter");
        Edges.answersInside("b", true, "isLyndon");
        Edges.answersInside("aab", true, "isLyndon");
        Edges.answersInside("bc", true, "isLyndon");
        Edges.answersInside("aba", false, "isLyndon");
        Edges.answersInside("abab", false, "isLyndon");
        Edges.answersInside("cb", false, "isLyndon");
        Edges.answers("aaba", true, "isLyndon", 0, 3);
        Edges.answers("aaba", false, "isLyndon", 0, 4);
        Edges.answers("aaba", true, "isLyndon", 0, 1);
        Edges.answers("aab", false, "isLyndon", 0, 2);
        Edges.sentence(16, "Returns whether it is.");
        Edges.answers("ab", true, "isLyndon", 0, 2);
        Edges.answers("ba", false, "isLyndon", 0, 2);
        Edges.answers("aa", false, "isLyndon", 0, 2);
        Edges.sentence(16, "Throws `IndexOutOfBoundsException` if there is no such part");
        Edges.refusesNoPart("isLyndon", Edges.FROM, Edges.TO);
    }

    private static void factors() {
        Edges.sentence(17, "Returns how many factors the text has");
        Edges.answers("c", 1, "factors");
        Edges.answers("bbabaabaabacaa", 6, "factors");
        Edges.answers(RISING, 1, "factors");
        Edges.answers(SAME, 64, "factors");
        Edges.answers(Edges.same('b', 63), 63, "factors");
        Edges.sentence(17, "0 if it is empty");
        Edges.answers("", 0, "factors");
    }

    private static void factorStart() {
        Edges.sentence(18, "`factor`: 0 or more, less than factors(): counted from the beginning of the text");
        Edges.answers("c", 0, "factorStart", 0);
        Edges.answers("baba", 0, "factorStart", 0);
        Edges.answers("baba", 3, "factorStart", 2);
        Edges.answers(SAME, 0, "factorStart", 0);
        Edges.answers(SAME, 63, "factorStart", 63);
        Edges.answers(RISING, 0, "factorStart", 0);
        Edges.sentence(18, "Returns the first place of a factor.");
        Edges.answers("baba", 1, "factorStart", 1);
        Edges.sentence(18, "Returns the place.");
        Edges.answers("cbbab", 3, "factorStart", 3);
        Edges.sentence(18, "Throws `IndexOutOfBoundsException` if there is no such factor");
        noSuchFactor("factorStart");
    }

    private static void noSuchFactor(String method) {
        Edges.refuses("", Edges.INDEX, method, 0);
        Edges.refusesOutside("", 0, -1, Edges.INDEX, method, Edges.HERE);
        Edges.refusesOutside("c", 0, 0, Edges.INDEX, method, Edges.HERE);
        Edges.refusesOutside("baba", 0, 2, Edges.INDEX, method, Edges.HERE);
        Edges.refusesOutside(RISING, 0, 0, Edges.INDEX, method, Edges.HERE);
        Edges.refusesOutside(SAME, 0, 63, Edges.INDEX, method, Edges.HERE);
        Edges.refusesOutside(Edges.same('b', 63), 0, 62, Edges.INDEX, method, Edges.HERE);
    }

    private static void factorLength() {
        Edges.sentence(19, "`factor`: 0 or more, less than factors()");
        Edges.answers("c", 1, "factorLength", 0);
        Edges.answers("babb", 1, "factorLength", 0);
        Edges.answers("babb", 3, "factorLength", 1);
        Edges.answers(SAME, 1, "factorLength", 0);
        Edges.answers(SAME, 1, "factorLength", 63);
        Edges.sentence(19, "Returns the length of a factor.");
        Edges.answers("baba", 2, "factorLength", 1);
        Edges.sentence(19, "Returns the length.");
        Edges.answers(RISING, 64, "factorLength", 0);
        Edges.answers("b" + Edges.same('a', 62) + "b", 63, "factorLength", 1);
        Edges.sentence(19, "Throws `IndexOutOfBoundsException` if there is no such factor");
        noSuchFactor("factorLength");
    }

    private static void factorOver() {
        Edges.sentence(20, "`place`: 0 or more, less than length()");
        Edges.answers("c", 0, "factorOver", 0);
        Edges.answers("baba", 0, "factorOver", 0);
        Edges.answers("baba", 2, "factorOver", 3);
        Edges.answers(SAME, 0, "factorOver", 0);
        Edges.answers(SAME, 63, "factorOver", 63);
        Edges.answers(RISING, 0, "factorOver", 63);
        Edges.sentence(20, "Returns the factor in which a place is.");
        // The first and the last place of a factor of three letters, and those next to it.
        Edges.answers("baaba", 0, "factorOver", 0);
        Edges.answers("baaba", 1, "factorOver", 1);
        Edges.answers("baaba", 1, "factorOver", 2);
        Edges.answers("baaba", 1, "factorOver", 3);
        Edges.answers("baaba", 2, "factorOver", 4);
        Edges.sentence(20, "Returns the factor.");
        Edges.answers("ababab", 2, "factorOver", 5);
        Edges.sentence(20, "Throws `IndexOutOfBoundsException` if there is no such place");
        Edges.refuses("", Edges.INDEX, "factorOver", 0);
        Edges.refusesOutside("", 0, -1, Edges.INDEX, "factorOver", Edges.HERE);
        Edges.refusesOutside("c", 0, 0, Edges.INDEX, "factorOver", Edges.HERE);
        Edges.refusesOutside("baba", 0, 3, Edges.INDEX, "factorOver", Edges.HERE);
        Edges.refusesOutside(RISING, 0, 63, Edges.INDEX, "factorOver", Edges.HERE);
    }

    private static void longestLyndon() {
        Edges.sentence(21, "`place`: 0 or more, less than length()");
        Edges.answers("c", 1, "longestLyndon", 0, false);
        Edges.answers("aab", 3, "longestLyndon", 0, false);
        Edges.answers("aab", 1, "longestLyndon", 2, false);
        Edges.answers("aab", 1, "longestLyndon", 2, true);
        Edges.answers(RISING, 1, "longestLyndon", 63, false);
        Edges.answers(RISING, 2, "longestLyndon", 62, false);
        Edges.sentence(21, "`isReversed`: whether Lyndon words of the reversed order of letters are meant");
        Edges.answers("ba", 1, "longestLyndon", 0, false);
        Edges.answers("ba", 2, "longestLyndon", 0, true);
        Edges.answers("ab", 2, "longestLyndon", 0, false);
        Edges.answers("ab", 1, "longestLyndon", 0, true);
        Edges.sentence(21, "Returns the length of the longest Lyndon word that begins at a place.");
        // ab is one too, but ababb is longer; and what is behind a lesser letter is not reached.
        Edges.answers("ababb", 5, "longestLyndon", 0, false);
        Edges.answers("abab", 2, "longestLyndon", 0, false);
        Edges.answers("baba", 2, "longestLyndon", 0, true);
        Edges.answers("babaa", 5, "longestLyndon", 0, true);
        Edges.answers("bcaddd", 2, "longestLyndon", 0, false);
        Edges.sentence(21, "Returns the length, 1 or more.");
        Edges.answers("aa", 1, "longestLyndon", 0, false);
        Edges.answers("aa", 1, "longestLyndon", 0, true);
        Edges.answers(SAME, 1, "longestLyndon", 0, false);
        Edges.answers(SAME, 1, "longestLyndon", 0, true);
        Edges.answers(RISING, 64, "longestLyndon", 0, false);
        Edges.answers(Edges.same('b', 63) + "a", 64, "longestLyndon", 0, true);
    }

    private static void longestLyndonRefused() {
        Edges.sentence(21, "Throws `IndexOutOfBoundsException` if there is no such place");
        for (boolean isReversed : new boolean[] {false, true}) {
            Edges.refuses("", Edges.INDEX, "longestLyndon", 0, isReversed);
            Edges.refusesOutside("", 0, -1, Edges.INDEX, "longestLyndon", Edges.HERE, isReversed);
            Edges.refusesOutside("c", 0, 0, Edges.INDEX, "longestLyndon", Edges.HERE, isReversed);
            Edges.refusesOutside("aab", 0, 2, Edges.INDEX, "longestLyndon", Edges.HERE, isReversed);
            Edges.refusesOutside(RISING, 0, 63, Edges.INDEX, "longestLyndon", Edges.HERE, isReversed);
        }
    }

    private static void standardFactor() {
        Edges.sentence(22, "where its longest suffix begins that is a Lyndon word, and not the word itself");
        Edges.answers("aab", 1, "standardFactor", 0, 3);
        Edges.answers("abb", 2, "standardFactor", 0, 3);
        Edges.answers("aabab", 3, "standardFactor", 0, 5);
        Edges.answers("aabaabac", 3, "standardFactor", 0, 8);
        Edges.answers("abac", 2, "standardFactor", 0, 4);
        Edges.answers(RISING, 1, "standardFactor", 0, 64);
        Edges.answers("a" + Edges.same('b', 63), 63, "standardFactor", 0, 64);
        Edges.sentence(22, "`from`: the first place of the word");
        Edges.answers("aab", 2, "standardFactor", 1, 3);
        Edges.answers("caab", 2, "standardFactor", 1, 4);
        Edges.answers(RISING, 63, "standardFactor", 62, 64);
        Edges.sentence(22, "`to`: the place behind it");
        Edges.placesInside("bc", 1, "standardFactor");
        Edges.placesInside("aab", 1, "standardFactor");
        Edges.placesInside("aabab", 3, "standardFactor");
        Edges.placesInside("aabaabac", 3, "standardFactor");
        Edges.answers("aabb", 1, "standardFactor", 0, 4);
        Edges.answers("aaba", 1, "standardFactor", 0, 3);
        Edges.answers("aba", 1, "standardFactor", 0, 2);
        Edges.sentence(22, "Returns the place in the text.");
        Edges.answers("cccab", 4, "standardFactor", 3, 5);
        Edges.answers("cccaab", 4, "standardFactor", 3, 6);
    }

    private static void standardFactorRefused() {
        Edges.sentence(22, "Throws `IndexOutOfBoundsException` if there is no such part");
        Edges.refusesNoPart("standardFactor", Edges.FROM, Edges.TO);
        Edges.sentence(22, "Throws `IllegalStateException` if it is no Lyndon word");
        Edges.refuses("aa", Edges.STATE, "standardFactor", 0, 2);
        Edges.refuses("ba", Edges.STATE, "standardFactor", 0, 2);
        Edges.refuses("aba", Edges.STATE, "standardFactor", 0, 3);
        Edges.refuses("abab", Edges.STATE, "standardFactor", 0, 4);
        Edges.refuses("aabb", Edges.STATE, "standardFactor", 0, 2);
        Edges.refuses(SAME, Edges.STATE, "standardFactor", 0, 64);
        Edges.refuses(Edges.FULL, Edges.STATE, "standardFactor", 0, 64);
        Edges.sentence(22, "or has one letter");
        Edges.refuses("a", Edges.STATE, "standardFactor", 0, 1);
        Edges.refuses("ab", Edges.STATE, "standardFactor", 0, 1);
        Edges.refuses("ab", Edges.STATE, "standardFactor", 1, 2);
        Edges.refuses(RISING, Edges.STATE, "standardFactor", 63, 64);
        Edges.answers("ab", 1, "standardFactor", 0, 2);
    }
}
