/** The boundary cases of the promises 43 to 45. */
final class EdgesOfNecklaces {
    private EdgesOfNecklaces() {
    }

    static void test() {
        necklaces();
        lyndonWords();
        necklaceNumberParts();
        necklaceNumbers();
        necklaceNumberRefused();
    }

    private static void necklaces() {
        Edges.sentence(43, "`letters`: 1 to 10: how many letters there are");
        Edges.answers("c", 1L, "necklaces", 1, 1);
        Edges.answers("c", 2L, "necklaces", 2, 1);
        Edges.answers("c", 9L, "necklaces", 9, 1);
        Edges.answers("c", 10L, "necklaces", 10, 1);
        Edges.sentence(43, "`length`: 1 to 12");
        Edges.answers("c", 1L, "necklaces", 1, 12);
        Edges.answers("c", 3L, "necklaces", 2, 2);
        Edges.answers("c", 188L, "necklaces", 2, 11);
        Edges.answers("c", 352L, "necklaces", 2, 12);
        Edges.answers("", 83333418520L, "necklaces", 10, 12);
        Edges.answers(Edges.FULL, 9090909100L, "necklaces", 10, 11);
        Edges.sentence(43, "Returns how many necklaces there are.");
        Edges.answers("c", 6L, "necklaces", 2, 4);
        Edges.sentence(43, "Returns how many necklaces of these letters have this length.");
        Edges.answers("c", 14L, "necklaces", 2, 6);
        Edges.answers("c", 8230L, "necklaces", 4, 8);
        Edges.sentence(43, "Throws `IllegalArgumentException` if letters or length is out of range");
        countRefused("necklaces");
    }

    private static void countRefused(String method) {
        for (int length : new int[] {1, 12}) {
            Edges.refusesOutside("c", 1, 10, Edges.ARGUMENT, method, Edges.HERE, length);
        }
        for (int letters : new int[] {1, 10}) {
            Edges.refusesOutside("c", 1, 12, Edges.ARGUMENT, method, letters, Edges.HERE);
        }
        Edges.refusesOutside("", 1, 10, Edges.ARGUMENT, method, Edges.HERE, 4);
        Edges.refusesOutside("", 1, 12, Edges.ARGUMENT, method, 4, Edges.HERE);
        Edges.refusesOutside("c", 1, 10, Edges.ARGUMENT, method, Edges.HERE, Edges.HERE);
    }

    private static void lyndonWords() {
        Edges.sentence(44, "`letters`: 1 to 10: how many letters there are");
        Edges.answers("c", 1L, "lyndonWords", 1, 1);
        Edges.answers("c", 2L, "lyndonWords", 2, 1);
        Edges.answers("c", 9L, "lyndonWords", 9, 1);
        Edges.answers("c", 10L, "lyndonWords", 10, 1);
        Edges.sentence(44, "`length`: 1 to 12");
        Edges.answers("c", 0L, "lyndonWords", 1, 2);
        Edges.answers("c", 0L, "lyndonWords", 1, 12);
        Edges.answers("c", 1L, "lyndonWords", 2, 2);
        Edges.answers("c", 186L, "lyndonWords", 2, 11);
        Edges.answers("c", 335L, "lyndonWords", 2, 12);
        Edges.answers("", 83333249175L, "lyndonWords", 10, 12);
        Edges.answers(Edges.FULL, 9090909090L, "lyndonWords", 10, 11);
        Edges.sentence(44, "Returns how many Lyndon words there are.");
        Edges.answers("c", 3L, "lyndonWords", 2, 4);
        Edges.sentence(44, "Returns how many Lyndon words of these letters have this length.");
        Edges.answers("c", 9L, "lyndonWords", 2, 6);
        Edges.answers("c", 2184L, "lyndonWords", 3, 9);
        Edges.sentence(44, "Throws `IllegalArgumentException` if letters or length is out of range");
        countRefused("lyndonWords");
    }

    private static void necklaceNumberParts() {
        Edges.sentence(45, "`from`: the first place");
        // Of two letters: aa, ab, bb.
        Edges.answers("abb", 1, "necklaceNumber", 0, 2, 2);
        Edges.answers("abb", 2, "necklaceNumber", 1, 3, 2);
        Edges.answers("abb", 1, "necklaceNumber", 2, 3, 2);
        Edges.answers(Edges.same('a', 62) + "bb", 2, "necklaceNumber", 62, 64, 2);
        Edges.sentence(45, "`to`: the place behind the last letter");
        Edges.answersInside("cba", 5, "necklaceNumber", 3);
        Edges.answersInside("bbb", 7, "necklaceNumber", 3);
        Edges.answersInside("ccc", 10, "necklaceNumber", 3);
        Edges.answersInside("baba", 3, "necklaceNumber", 2);
        Edges.answersInside("bbbb", 5, "necklaceNumber", 2);
        Edges.answers("aab", 0, "necklaceNumber", 0, 1, 2);
        Edges.answers("aab", 0, "necklaceNumber", 0, 2, 2);
        Edges.answers("aab", 1, "necklaceNumber", 0, 3, 2);
        Edges.sentence(45, "`letters`: 1 to 4: the letters are 0 to letters less 1");
        Edges.answers("a", 0, "necklaceNumber", 0, 1, 1);
        Edges.answers("b", 1, "necklaceNumber", 0, 1, 2);
        Edges.answers("c", 2, "necklaceNumber", 0, 1, 3);
        Edges.answers("d", 3, "necklaceNumber", 0, 1, 4);
        Edges.answers("bb", 2, "necklaceNumber", 0, 2, 2);
        Edges.answers("bb", 3, "necklaceNumber", 0, 2, 3);
        Edges.answers("bb", 4, "necklaceNumber", 0, 2, 4);
    }

    private static void necklaceNumbers() {
        Edges.sentence(45, "Returns the number of the least rotation of a part among all necklaces of its length.");
        for (String rotated : new String[] {"aabb", "abba", "bbaa", "baab"}) {
            Edges.answers(rotated, 2, "necklaceNumber", 0, 4, 2);
        }
        for (String rotated : new String[] {"abab", "baba"}) {
            Edges.answers(rotated, 3, "necklaceNumber", 0, 4, 2);
        }
        Edges.answers("dddddddc", 8228, "necklaceNumber", 0, 8, 4);
        Edges.answers("baaaaaaa", 1, "necklaceNumber", 0, 8, 4);
        Edges.sentence(45, "Returns the number, in rising order, from 0.");
        int[][] last = {{0, 0, 0, 0, 0, 0, 0, 0}, {1, 2, 3, 5, 7, 13, 19, 35}, {2, 5, 10, 23, 50, 129, 314, 833},
            {3, 9, 23, 69, 207, 699, 2343, 8229}};
        for (int letters = 1; letters <= 4; letters++) {
            char greatest = (char) ('a' + letters - 1);
            for (int length = 1; length <= 8; length++) {
                Edges.answers(Edges.same('a', length), 0, "necklaceNumber", 0, length, letters);
                int due = last[letters - 1][length - 1];
                Edges.answers(Edges.same(greatest, length), due, "necklaceNumber", 0, length, letters);
            }
        }
    }

    private static void necklaceNumberRefused() {
        Edges.sentence(45, "Throws `IndexOutOfBoundsException` if there is no such part");
        for (int letters = 1; letters <= 4; letters += 3) {
            Edges.refusesNoPart("necklaceNumber", Edges.FROM, Edges.TO, letters);
        }
        Edges.sentence(45, "Throws `IllegalArgumentException` if letters is out of range");
        Edges.refusesOutside("a", 1, 4, Edges.ARGUMENT, "necklaceNumber", 0, 1, Edges.HERE);
        Edges.refusesOutside("aaaaaaaa", 1, 4, Edges.ARGUMENT, "necklaceNumber", 0, 8, Edges.HERE);
        Edges.refusesOutside("e", 1, 4, Edges.ARGUMENT, "necklaceNumber", 0, 1, Edges.HERE);
        Edges.sentence(45, "Throws `IllegalStateException` if the part has more than 8 letters");
        Edges.answers("aaaaaaaab", 0, "necklaceNumber", 0, 8, 4);
        Edges.answers("aaaaaaaab", 1, "necklaceNumber", 1, 9, 4);
        Edges.refuses("aaaaaaaaa", Edges.STATE, "necklaceNumber", 0, 9, 4);
        Edges.refuses("aaaaaaaaa", Edges.STATE, "necklaceNumber", 0, 9, 1);
        Edges.refuses(Edges.same('a', 64), Edges.STATE, "necklaceNumber", 0, 64, 1);
        Edges.refuses(Edges.same('a', 64), Edges.STATE, "necklaceNumber", 55, 64, 1);
        Edges.answers(Edges.same('a', 64), 0, "necklaceNumber", 56, 64, 1);
        Edges.sentence(45, "or a letter that is not among these");
        for (int letters = 1; letters <= 4; letters++) {
            String next = String.valueOf((char) ('a' + letters));
            Edges.refuses(next, Edges.STATE, "necklaceNumber", 0, 1, letters);
            Edges.refuses("aaa" + next, Edges.STATE, "necklaceNumber", 0, 4, letters);
            Edges.refuses(next + "aaa", Edges.STATE, "necklaceNumber", 0, 4, letters);
            Edges.refuses("aa" + next + "aaaaa", Edges.STATE, "necklaceNumber", 0, 8, letters);
            Edges.refuses("az", Edges.STATE, "necklaceNumber", 0, 2, letters);
            // Outside the part it may be.
            Edges.answers(next + "aa" + next, 0, "necklaceNumber", 1, 3, letters);
        }
    }
}
