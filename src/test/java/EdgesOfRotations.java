/** The boundary cases of the promises 23 to 26. */
final class EdgesOfRotations {
    private static final String SAME = Edges.same('b', 64);

    private EdgesOfRotations() {
    }

    static void test() {
        leastRotation();
        greatestRotation();
        rotations();
        isNecklace();
    }

    private static void leastRotation() {
        Edges.sentence(23, "by how many letters a part has to be rotated to become the least one of its rotations");
        Edges.answers("aab", 0, "leastRotation", 0, 3);
        Edges.answers("baa", 1, "leastRotation", 0, 3);
        Edges.answers("aba", 2, "leastRotation", 0, 3);
        Edges.answers("bbaab", 2, "leastRotation", 0, 5);
        Edges.answers(Edges.same('b', 63) + "a", 63, "leastRotation", 0, 64);
        Edges.sentence(23, "`from`: the first place");
        Edges.answers("abab", 0, "leastRotation", 0, 4);
        Edges.answers("abab", 1, "leastRotation", 1, 4);
        Edges.answers("abab", 0, "leastRotation", 3, 4);
        Edges.sentence(23, "`to`: the place behind the last letter");
        Edges.answersInside("b", 0, "leastRotation");
        Edges.answersInside("ba", 1, "leastRotation");
        Edges.answersInside("aba", 2, "leastRotation");
        Edges.answersInside("abab", 0, "leastRotation");
        Edges.answersInside("baba", 1, "leastRotation");
        Edges.answersInside("bbaab", 2, "leastRotation");
        Edges.answersInside("cbcbb", 3, "leastRotation");
        Edges.answers("bba", 0, "leastRotation", 0, 1);
        Edges.answers("bba", 0, "leastRotation", 0, 2);
        Edges.answers("bba", 2, "leastRotation", 0, 3);
        Edges.answers("cbba", 1, "leastRotation", 0, 3);
        Edges.sentence(23, "Returns the number of letters, the least one if there are several.");
        Edges.answers("b", 0, "leastRotation", 0, 1);
        Edges.answers("bb", 0, "leastRotation", 0, 2);
        Edges.answers("abab", 0, "leastRotation", 0, 4);
        Edges.answers("baba", 1, "leastRotation", 0, 4);
        Edges.answers("bababa", 1, "leastRotation", 0, 6);
        Edges.answers("bbabba", 2, "leastRotation", 0, 6);
        Edges.answers(SAME, 0, "leastRotation", 0, 64);
        Edges.answers("ba".repeat(32), 1, "leastRotation", 0, 64);
        Edges.sentence(23, "Throws `IndexOutOfBoundsException` if there is no such part");
        Edges.refusesNoPart("leastRotation", Edges.FROM, Edges.TO);
    }

    private static void greatestRotation() {
        Edges.sentence(24, "by how many letters a part has to be rotated to become the greatest one of its rotations");
        Edges.answers("bba", 0, "greatestRotation", 0, 3);
        Edges.answers("abb", 1, "greatestRotation", 0, 3);
        Edges.answers("bab", 2, "greatestRotation", 0, 3);
        Edges.answers("aabba", 2, "greatestRotation", 0, 5);
        Edges.answers(Edges.same('a', 63) + "b", 63, "greatestRotation", 0, 64);
        Edges.sentence(24, "`from`: the first place");
        Edges.answers("baba", 0, "greatestRotation", 0, 4);
        Edges.answers("baba", 1, "greatestRotation", 1, 4);
        Edges.answers("baba", 0, "greatestRotation", 3, 4);
        Edges.sentence(24, "`to`: the place behind the last letter");
        Edges.answersInside("b", 0, "greatestRotation");
        Edges.answersInside("ab", 1, "greatestRotation");
        Edges.answersInside("bab", 2, "greatestRotation");
        Edges.answersInside("baba", 0, "greatestRotation");
        Edges.answersInside("abab", 1, "greatestRotation");
        Edges.answersInside("aabba", 2, "greatestRotation");
        Edges.answersInside("abaab", 4, "greatestRotation");
        Edges.answers("aab", 0, "greatestRotation", 0, 1);
        Edges.answers("aab", 0, "greatestRotation", 0, 2);
        Edges.answers("aab", 2, "greatestRotation", 0, 3);
        Edges.answers("abbc", 1, "greatestRotation", 0, 3);
        Edges.sentence(24, "Returns the number of letters, the least one if there are several.");
        Edges.answers("b", 0, "greatestRotation", 0, 1);
        Edges.answers("bb", 0, "greatestRotation", 0, 2);
        Edges.answers("baba", 0, "greatestRotation", 0, 4);
        Edges.answers("abab", 1, "greatestRotation", 0, 4);
        Edges.answers("ababab", 1, "greatestRotation", 0, 6);
        Edges.answers("aabaab", 2, "greatestRotation", 0, 6);
        Edges.answers(SAME, 0, "greatestRotation", 0, 64);
        Edges.answers("ab".repeat(32), 1, "greatestRotation", 0, 64);
        Edges.sentence(24, "Throws `IndexOutOfBoundsException` if there is no such part");
        Edges.refusesNoPart("greatestRotation", Edges.FROM, Edges.TO);
    }

    private static void rotations() {
        Edges.sentence(25, "Returns how many different words the rotations of a part are.");
        Edges.answers("aab", 3, "rotations", 0, 3);
        Edges.answers("aba", 3, "rotations", 0, 3);
        Edges.answers("abab", 2, "rotations", 0, 4);
        Edges.answers("aabaab", 3, "rotations", 0, 6);
        Edges.sentence(25, "`from`: the first place");
        Edges.answers("babb", 4, "rotations", 0, 4);
        Edges.answers("babb", 3, "rotations", 1, 4);
        Edges.answers("babb", 1, "rotations", 2, 4);
        Edges.answers("babb", 1, "rotations", 3, 4);
        Edges.sentence(25, "`to`: the place behind the last letter");
        Edges.answersInside("b", 1, "rotations");
        Edges.answersInside("bb", 1, "rotations");
        Edges.answersInside("aba", 3, "rotations");
        Edges.answersInside("abab", 2, "rotations");
        Edges.answersInside("aabaab", 3, "rotations");
        Edges.answersInside("aabaabaa", 8, "rotations");
        Edges.answers("aabb", 1, "rotations", 0, 1);
        Edges.answers("aabb", 1, "rotations", 0, 2);
        Edges.answers("aabb", 3, "rotations", 0, 3);
        Edges.answers("aabb", 4, "rotations", 0, 4);
        Edges.sentence(25, "Returns 1 up to the length of the part.");
        Edges.answers("c", 1, "rotations", 0, 1);
        Edges.answers("cc", 1, "rotations", 0, 2);
        Edges.answers("cd", 2, "rotations", 0, 2);
        Edges.answers(SAME, 1, "rotations", 0, 64);
        Edges.answers(Edges.same('a', 63) + "b", 64, "rotations", 0, 64);
        Edges.answers("ab".repeat(32), 2, "rotations", 0, 64);
        Edges.sentence(25, "Throws `IndexOutOfBoundsException` if there is no such part");
        Edges.refusesNoPart("rotations", Edges.FROM, Edges.TO);
    }

    private static void isNecklace() {
        Edges.sentence(26, "Tells whether a part is a necklace.");
        Edges.answers("aab", true, "isNecklace", 0, 3);
        Edges.answers("aba", false, "isNecklace", 0, 3);
        Edges.sentence(26, "`from`: the first place");
        Edges.answers("baab", false, "isNecklace", 0, 4);
        Edges.answers("baab", true, "isNecklace", 1, 4);
        Edges.answers("baab", true, "isNecklace", 3, 4);
        Edges.sentence(26, "`to`: the place behind the last letter");
        Edges.answersInside("b", true, "isNecklace");
        Edges.answersInside("aab", true, "isNecklace");
        Edges.answersInside("aba", false, "isNecklace");
        Edges.answersInside("abab", true, "isNecklace");
        Edges.answersInside("baba", false, "isNecklace");
        Edges.answersInside("aabaa", false, "isNecklace");
        Edges.answers("aaba", true, "isNecklace", 0, 1);
        Edges.answers("aaba", true, "isNecklace", 0, 2);
        Edges.answers("aaba", true, "isNecklace", 0, 3);
        Edges.answers("aaba", false, "isNecklace", 0, 4);
        Edges.sentence(26, "Returns whether it is.");
        Edges.answers("a", true, "isNecklace", 0, 1);
        Edges.answers("aa", true, "isNecklace", 0, 2);
        Edges.answers("abab", true, "isNecklace", 0, 4);
        Edges.answers("baba", false, "isNecklace", 0, 4);
        Edges.answers("aabaa", false, "isNecklace", 0, 5);
        Edges.answers(SAME, true, "isNecklace", 0, 64);
        Edges.answers(Edges.same('b', 63) + "a", false, "isNecklace", 0, 64);
        Edges.answers(Edges.same('a', 63) + "b", true, "isNecklace", 0, 64);
        Edges.sentence(26, "Throws `IndexOutOfBoundsException` if there is no such part");
        Edges.refusesNoPart("isNecklace", Edges.FROM, Edges.TO);
    }
}
