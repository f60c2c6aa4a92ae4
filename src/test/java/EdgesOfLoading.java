/** The boundary cases of the promises 10 and 11. */
final class EdgesOfLoading {
    private EdgesOfLoading() {
    }

    static void test() {
        deBruijnWords();
        deBruijnLengths();
        deBruijnRefused();
        necklaces();
        necklaceRoots();
        necklacesRefused();
    }

    private static void deBruijnWords() {
        Edges.sentence(10, "all Lyndon words of the first letters whose lengths divide the given length");
        // For the length 4 no word has three letters, for 5 none has two to four, for 6 none has four or five.
        Edges.edits("zz", "a" + "aaab" + "aabb" + "ab" + "abbb" + "b", 16, "loadDeBruijn", 2, 4);
        Edges.edits("zz", "a" + "aaaab" + "aaabb" + "aabab" + "aabbb" + "ababb" + "abbbb" + "b", 32,
                "loadDeBruijn", 2, 5);
        Edges.edits("zz", "a" + "aaaaab" + "aaaabb" + "aaabab" + "aaabbb" + "aab" + "aababb" + "aabbab" + "aabbbb"
                + "ab" + "ababbb" + "abb" + "abbbbb" + "b", 64, "loadDeBruijn", 2, 6);
        Edges.sentence(10, "one behind the other in rising order");
        Edges.edits("zz", "a" + "ab" + "ac" + "b" + "bc" + "c", 9, "loadDeBruijn", 3, 2);
        Edges.edits("zz", "a" + "aab" + "abb" + "b", 8, "loadDeBruijn", 2, 3);
        Edges.sentence(10, "Makes the text a de Bruijn word");
        Edges.edits("", "ab", 2, "loadDeBruijn", 2, 1);
        Edges.edits("z", "ab", 2, "loadDeBruijn", 2, 1);
        Edges.edits(Edges.FULL, "ab", 2, "loadDeBruijn", 2, 1);
        Edges.edits(Edges.FULL, "aabb", 4, "loadDeBruijn", 2, 2);
    }

    private static void deBruijnLengths() {
        Edges.sentence(10, "`letters`: 1 to 8: the letters are 0 to letters less 1");
        Edges.edits("zz", "a", 1, "loadDeBruijn", 1, 1);
        Edges.edits("zz", "abcdefg", 7, "loadDeBruijn", 7, 1);
        Edges.edits("zz", "abcdefgh", 8, "loadDeBruijn", 8, 1);
        Edges.sentence(10, "`length`: 1 to 6");
        Edges.edits("zz", "a", 1, "loadDeBruijn", 1, 2);
        Edges.edits("zz", "a", 1, "loadDeBruijn", 1, 5);
        Edges.edits("zz", "a", 1, "loadDeBruijn", 1, 6);
        Edges.sentence(10, "Returns the length of the text then, which is letters to the power of length.");
        int[] greatest = {6, 6, 3, 3, 2, 2, 2, 2};
        for (int letters = 1; letters <= 8; letters++) {
            int power = 1;
            for (int length = 1; length <= greatest[letters - 1]; length++) {
                power *= letters;
                LyndonText x = Check.textOf("zz");
                Check.same("loadDeBruijn(" + letters + ", " + length + ")",
                        Edges.answer(x, "loadDeBruijn", letters, length), power);
                Check.same("length() then", Edges.answer(x, "length"), power);
                Check.same("the first letter then", Edges.answer(x, "letterAt", 0), 0);
                Check.same("the last letter then", Edges.answer(x, "letterAt", power - 1), letters - 1);
            }
        }
    }

    private static void deBruijnRefused() {
        Edges.sentence(10, "Throws `IllegalArgumentException` if letters or length is out of range");
        for (String letters : new String[] {"", "zz", Edges.FULL}) {
            Edges.refusesOutside(letters, 1, 8, Edges.ARGUMENT, "loadDeBruijn", Edges.HERE, 1);
            Edges.refusesOutside(letters, 1, 6, Edges.ARGUMENT, "loadDeBruijn", 1, Edges.HERE);
            Edges.refusesOutside(letters, 1, 6, Edges.ARGUMENT, "loadDeBruijn", 8, Edges.HERE);
            Edges.refusesOutside(letters, 1, 8, Edges.ARGUMENT, "loadDeBruijn", Edges.HERE, 6);
        }
        Edges.refuses("zz", Edges.ARGUMENT, "loadDeBruijn", 0, 0);
        Edges.refuses("zz", Edges.ARGUMENT, "loadDeBruijn", 9, 7);
        Edges.refuses("zz", Edges.ARGUMENT, "loadDeBruijn", Integer.MAX_VALUE, Integer.MAX_VALUE);
        Edges.refuses("zz", Edges.ARGUMENT, "loadDeBruijn", Integer.MIN_VALUE, Integer.MIN_VALUE);
        Edges.sentence(10, "or the text would have more than 64 letters");
        int[] least = {7, 7, 4, 4, 3, 3, 3, 3};
        for (int letters = 1; letters <= 8; letters++) {
            for (int length = least[letters - 1]; length <= 6; length++) {
                Edges.refuses("zz", Edges.ARGUMENT, "loadDeBruijn", letters, length);
                Edges.refuses("", Edges.ARGUMENT, "loadDeBruijn", letters, length);
            }
        }
        Edges.refuses(Edges.FULL, Edges.ARGUMENT, "loadDeBruijn", 3, 4);
        // Just 64 letters, also where there were some before.
        for (int[] pair : new int[][] {{2, 6}, {4, 3}, {8, 2}}) {
            for (String before : new String[] {"", "zz", Edges.FULL}) {
                Check.same("loadDeBruijn(" + pair[0] + ", " + pair[1] + ") of '" + before + "'",
                        Edges.answer(Check.textOf(before), "loadDeBruijn", pair[0], pair[1]), 64);
            }
        }
    }

    private static void necklaces() {
        Edges.sentence(11, "Makes the text a necklace.");
        Edges.edits("", "ab", 2, "loadNecklace", 2, 2, 1);
        Edges.edits("z", "ab", 2, "loadNecklace", 2, 2, 1);
        Edges.edits(Edges.FULL, "ab", 2, "loadNecklace", 2, 2, 1);
        Edges.edits(Edges.FULL, "aaaaaaab", 8, "loadNecklace", 2, 8, 1);
        Edges.sentence(11, "`letters`: 1 to 4: the letters are 0 to letters less 1");
        Edges.edits("zz", "a", 1, "loadNecklace", 1, 1, 0);
        Edges.edits("zz", "b", 1, "loadNecklace", 2, 1, 1);
        Edges.edits("zz", "c", 1, "loadNecklace", 3, 1, 2);
        Edges.edits("zz", "d", 1, "loadNecklace", 4, 1, 3);
        Edges.sentence(11, "`length`: 1 to 8");
        Edges.edits("zz", "aa", 1, "loadNecklace", 4, 2, 0);
        Edges.edits("zz", "aaaaaaa", 1, "loadNecklace", 4, 7, 0);
        Edges.edits("zz", "aaaaaaaa", 1, "loadNecklace", 4, 8, 0);
        Edges.sentence(11, "its number among all necklaces of these letters with this length, in rising order, from 0");
        int[][] counts = {{1, 1, 1, 1, 1, 1, 1, 1}, {2, 3, 4, 6, 8, 14, 20, 36}, {3, 6, 11, 24, 51, 130, 315, 834},
            {4, 10, 24, 70, 208, 700, 2344, 8230}};
        for (int letters = 1; letters <= 4; letters++) {
            char greatest = (char) ('a' + letters - 1);
            for (int length = 1; length <= 8; length++) {
                int count = counts[letters - 1][length - 1];
                Edges.edits("zz", Edges.same('a', length), 1, "loadNecklace", letters, length, 0);
                Edges.edits("zz", Edges.same(greatest, length), 1, "loadNecklace", letters, length, count - 1);
                Edges.refusesOutside("zz", 0, count - 1, Edges.ARGUMENT, "loadNecklace", letters, length, Edges.HERE);
            }
        }
        Edges.edits("zz", "aaaaaaab", 8, "loadNecklace", 4, 8, 1);
        Edges.edits("zz", "cddddddd", 8, "loadNecklace", 4, 8, 8228);
    }

    private static void necklaceRoots() {
        Edges.sentence(11, "Returns the length of its root.");
        String[] ofSix = {"aaaaaa", "aaaaab", "aaaabb", "aaabab", "aaabbb", "aabaab", "aababb", "aabbab", "aabbbb",
            "ababab", "ababbb", "abbabb", "abbbbb", "bbbbbb"};
        int[] roots = {1, 6, 6, 6, 6, 3, 6, 6, 6, 2, 6, 3, 6, 1};
        for (int number = 0; number < ofSix.length; number++) {
            Edges.edits("zz", ofSix[number], roots[number], "loadNecklace", 2, 6, number);
        }
    }

    private static void necklacesRefused() {
        Edges.sentence(11, "Throws `IllegalArgumentException` if letters, length or number is out of range");
        for (String letters : new String[] {"", "zz", Edges.FULL}) {
            Edges.refusesOutside(letters, 1, 4, Edges.ARGUMENT, "loadNecklace", Edges.HERE, 1, 0);
            Edges.refusesOutside(letters, 1, 4, Edges.ARGUMENT, "loadNecklace", Edges.HERE, 8, 0);
            Edges.refusesOutside(letters, 1, 8, Edges.ARGUMENT, "loadNecklace", 1, Edges.HERE, 0);
            Edges.refusesOutside(letters, 1, 8, Edges.ARGUMENT, "loadNecklace", 4, Edges.HERE, 0);
            Edges.refusesOutside(letters, 0, 0, Edges.ARGUMENT, "loadNecklace", 1, 8, Edges.HERE);
            Edges.refusesOutside(letters, 0, 8229, Edges.ARGUMENT, "loadNecklace", 4, 8, Edges.HERE);
        }
        Edges.refuses("zz", Edges.ARGUMENT, "loadNecklace", 0, 0, -1);
        Edges.refuses("zz", Edges.ARGUMENT, "loadNecklace", 5, 9, 0);
    }
}
