/** The boundary cases of the promises 27 to 33. */
final class EdgesOfPeriods {
    private static final String SAME = Edges.same('b', 64);
    private static final String RISING = Edges.same('a', 63) + "b";

    private EdgesOfPeriods() {
    }

    static void test() {
        period(27, "period", "Returns the least period of a part.", "Returns 1 up to the length of the part.");
        period(28, "periodByTrying", "found by trying all numbers from 1 on", "Returns the same as period().");
        periodByTrying();
        isPeriod();
        isPeriodRefused();
        periods();
        border();
        rootLength();
        exponent();
    }

    private static void period(int promise, String method, String words, String returned) {
        Edges.sentence(promise, words);
        // 3 and 5 are periods of the first, 4 and 6 of the second, 2 and 4 and 5 of the third.
        Edges.answers("abaab", 3, method, 0, 5);
        Edges.answers("abacab", 4, method, 0, 6);
        Edges.answers("ababa", 2, method, 0, 5);
        Edges.answers(Edges.FULL, 26, method, 0, 64);
        Edges.sentence(promise, "`from`: the first place");
        Edges.answers("cabab", 5, method, 0, 5);
        Edges.answers("cabab", 2, method, 1, 5);
        Edges.answers("cabab", 1, method, 4, 5);
        Edges.sentence(promise, "`to`: the place behind the last letter");
        Edges.answersInside("b", 1, method);
        Edges.answersInside("bb", 1, method);
        Edges.answersInside("ab", 2, method);
        Edges.answersInside("abaab", 3, method);
        Edges.answersInside("abcabcab", 3, method);
        Edges.answers("aabb", 1, method, 0, 1);
        Edges.answers("aabb", 1, method, 0, 2);
        Edges.answers("aabb", 3, method, 0, 3);
        Edges.answers("aabb", 4, method, 0, 4);
        Edges.sentence(promise, returned);
        Edges.answers("c", 1, method, 0, 1);
        Edges.answers("cc", 1, method, 0, 2);
        Edges.answers("cd", 2, method, 0, 2);
        Edges.answers(SAME, 1, method, 0, 64);
        Edges.answers(RISING, 64, method, 0, 64);
        Edges.answers("ab".repeat(32), 2, method, 0, 64);
        Edges.answers("b" + Edges.same('a', 62) + "b", 63, method, 0, 64);
        Edges.sentence(promise, "Throws `IndexOutOfBoundsException` if there is no such part");
        Edges.refusesNoPart(method, Edges.FROM, Edges.TO);
    }

    private static void periodByTrying() {
        Edges.sentence(28, "Returns the same as period().");
        LyndonText x = Check.textOf("abaababaab");
        for (int from = 0; from < 10; from++) {
            for (int to = from + 1; to <= 10; to++) {
                Check.same("periodByTrying(" + from + ", " + to + ")", Edges.answer(x, "periodByTrying", from, to),
                        Edges.answer(x, "period", from, to));
            }
        }
    }

    private static void isPeriod() {
        Edges.sentence(29, "Tells whether a number is a period of a part.");
        Edges.answers("abaab", true, "isPeriod", 0, 5, 3);
        Edges.answers("abaab", false, "isPeriod", 0, 5, 2);
        Edges.sentence(29, "`from`: the first place");
        Edges.answers("cabab", false, "isPeriod", 0, 5, 2);
        Edges.answers("cabab", true, "isPeriod", 1, 5, 2);
        Edges.answers("cabab", true, "isPeriod", 4, 5, 1);
        Edges.sentence(29, "`to`: the place behind the last letter");
        Edges.answersInside("abaab", true, "isPeriod", 3);
        Edges.answersInside("abaab", false, "isPeriod", 2);
        Edges.answersInside("abaab", true, "isPeriod", 5);
        Edges.answers("aab", true, "isPeriod", 0, 1, 1);
        Edges.answers("aab", true, "isPeriod", 0, 2, 1);
        Edges.answers("aab", false, "isPeriod", 0, 3, 1);
        Edges.sentence(29, "`period`: 1 up to the length of the part");
        Edges.answers("aaa", true, "isPeriod", 0, 3, 1);
        Edges.answers("abc", false, "isPeriod", 0, 3, 1);
        Edges.answers("abc", false, "isPeriod", 0, 3, 2);
        Edges.answers("abc", true, "isPeriod", 0, 3, 3);
        Edges.answers("abcde", true, "isPeriod", 1, 4, 3);
        Edges.answers(SAME, true, "isPeriod", 0, 64, 1);
        Edges.answers(SAME, true, "isPeriod", 0, 64, 63);
        Edges.answers(RISING, false, "isPeriod", 0, 64, 63);
        Edges.answers(RISING, true, "isPeriod", 0, 64, 64);
        Edges.sentence(29, "Returns whether it is.");
        // One letter, the last one, is not the same as what is a period before it.
        Edges.answers("ababac", false, "isPeriod", 0, 6, 2);
        Edges.answers("ababab", true, "isPeriod", 0, 6, 2);
        Edges.answers("ababab", true, "isPeriod", 0, 6, 4);
        Edges.answers("ababab", false, "isPeriod", 0, 6, 5);
        Edges.answers("ababab", true, "isPeriod", 0, 6, 6);
    }

    private static void isPeriodRefused() {
        Edges.sentence(29, "Throws `IndexOutOfBoundsException` if there is no such part");
        Edges.refusesNoPart("isPeriod", Edges.FROM, Edges.TO, 1);
        Edges.sentence(29, "Throws `IllegalArgumentException` if period is out of range");
        Edges.refusesOutside("c", 1, 1, Edges.ARGUMENT, "isPeriod", 0, 1, Edges.HERE);
        Edges.refusesOutside("aaa", 1, 3, Edges.ARGUMENT, "isPeriod", 0, 3, Edges.HERE);
        // What is out of range is told by the part, not by the text.
        Edges.refusesOutside("aaaaa", 1, 2, Edges.ARGUMENT, "isPeriod", 0, 2, Edges.HERE);
        Edges.refusesOutside("aaaaa", 1, 2, Edges.ARGUMENT, "isPeriod", 3, 5, Edges.HERE);
        Edges.refusesOutside(SAME, 1, 64, Edges.ARGUMENT, "isPeriod", 0, 64, Edges.HERE);
        Edges.refusesOutside(SAME, 1, 1, Edges.ARGUMENT, "isPeriod", 63, 64, Edges.HERE);
    }

    private static void periods() {
        Edges.sentence(30, "Returns how many periods a part has, its length too.");
        Edges.answers("ab", 1, "periods", 0, 2);
        Edges.answers("aba", 2, "periods", 0, 3);
        Edges.answers("ababa", 3, "periods", 0, 5);
        Edges.answers("aabaabaa", 4, "periods", 0, 8);
        Edges.sentence(30, "`from`: the first place");
        Edges.answers("caa", 1, "periods", 0, 3);
        Edges.answers("caa", 2, "periods", 1, 3);
        Edges.answers("caa", 1, "periods", 2, 3);
        Edges.sentence(30, "`to`: the place behind the last letter");
        Edges.answersInside("b", 1, "periods");
        Edges.answersInside("bb", 2, "periods");
        Edges.answersInside("ab", 1, "periods");
        Edges.answersInside("aabaabaa", 4, "periods");
        Edges.answers("aac", 1, "periods", 0, 1);
        Edges.answers("aac", 2, "periods", 0, 2);
        Edges.answers("aac", 1, "periods", 0, 3);
        Edges.sentence(30, "Returns 1 up to the length of the part.");
        Edges.answers("c", 1, "periods", 0, 1);
        Edges.answers("cc", 2, "periods", 0, 2);
        Edges.answers(SAME, 64, "periods", 0, 64);
        Edges.answers(SAME, 63, "periods", 1, 64);
        Edges.answers(RISING, 1, "periods", 0, 64);
        Edges.sentence(30, "Throws `IndexOutOfBoundsException` if there is no such part");
        Edges.refusesNoPart("periods", Edges.FROM, Edges.TO);
    }

    private static void border() {
        Edges.sentence(31, "Returns the length of the longest border of a part.");
        Edges.answers("ababa", 3, "border", 0, 5);
        Edges.answers("abacaba", 3, "border", 0, 7);
        Edges.answers("aabaabaa", 5, "border", 0, 8);
        Edges.answers("aabaaab", 3, "border", 0, 7);
        Edges.sentence(31, "`from`: the first place");
        Edges.answers("caa", 0, "border", 0, 3);
        Edges.answers("caa", 1, "border", 1, 3);
        Edges.answers("caa", 0, "border", 2, 3);
        Edges.sentence(31, "`to`: the place behind the last letter");
        Edges.answersInside("b", 0, "border");
        Edges.answersInside("bb", 1, "border");
        Edges.answersInside("ab", 0, "border");
        Edges.answersInside("aabaabaa", 5, "border");
        Edges.answers("aac", 0, "border", 0, 1);
        Edges.answers("aac", 1, "border", 0, 2);
        Edges.answers("aac", 0, "border", 0, 3);
        Edges.sentence(31, "Returns 0 up to the length of the part less 1.");
        Edges.answers("c", 0, "border", 0, 1);
        Edges.answers("cc", 1, "border", 0, 2);
        Edges.answers("cd", 0, "border", 0, 2);
        Edges.answers(SAME, 63, "border", 0, 64);
        Edges.answers(RISING, 0, "border", 0, 64);
        Edges.sentence(31, "Throws `IndexOutOfBoundsException` if there is no such part");
        Edges.refusesNoPart("border", Edges.FROM, Edges.TO);
    }

    private static void rootLength() {
        Edges.sentence(32, "Returns the length of the root of a part.");
        Edges.answers("abab", 2, "rootLength", 0, 4);
        Edges.answers("ababab", 2, "rootLength", 0, 6);
        Edges.answers("aabaab", 3, "rootLength", 0, 6);
        Edges.sentence(32, "`from`: the first place");
        Edges.answers("cabab", 5, "rootLength", 0, 5);
        Edges.answers("cabab", 2, "rootLength", 1, 5);
        Edges.answers("cabab", 1, "rootLength", 4, 5);
        Edges.sentence(32, "`to`: the place behind the last letter");
        Edges.answersInside("b", 1, "rootLength");
        Edges.answersInside("bb", 1, "rootLength");
        Edges.answersInside("ab", 2, "rootLength");
        Edges.answersInside("aabaab", 3, "rootLength");
        Edges.answersInside("aabaabaa", 8, "rootLength");
        Edges.answers("ababc", 1, "rootLength", 0, 1);
        Edges.answers("ababc", 2, "rootLength", 0, 4);
        Edges.answers("ababc", 5, "rootLength", 0, 5);
        Edges.sentence(32, "Returns the length, a divisor of that of the part.");
        // The least period of these is no divisor.
        Edges.answers("aba", 3, "rootLength", 0, 3);
        Edges.answers("ababa", 5, "rootLength", 0, 5);
        Edges.answers("abaababaab", 5, "rootLength", 0, 10);
        Edges.answers("abcabcab", 8, "rootLength", 0, 8);
        Edges.answers("c", 1, "rootLength", 0, 1);
        Edges.answers(SAME, 1, "rootLength", 0, 64);
        Edges.answers(SAME, 1, "rootLength", 1, 64);
        Edges.answers(RISING, 64, "rootLength", 0, 64);
        Edges.answers(Edges.FULL, 64, "rootLength", 0, 64);
        Edges.answers(Edges.FULL.substring(0, 32) + Edges.FULL.substring(0, 32), 32, "rootLength", 0, 64);
        Edges.sentence(32, "Throws `IndexOutOfBoundsException` if there is no such part");
        Edges.refusesNoPart("rootLength", Edges.FROM, Edges.TO);
    }

    private static void exponent() {
        Edges.sentence(33, "its length as a double, divided by its least period");
        Edges.answers("ababa", 2.5, "exponent", 0, 5);
        Edges.answers("abcabcab", 8.0 / 3.0, "exponent", 0, 8);
        Edges.answers("abcdefgabc", 10.0 / 7.0, "exponent", 0, 10);
        Edges.answers(Edges.FULL, 64.0 / 26.0, "exponent", 0, 64);
        Edges.sentence(33, "`from`: the first place");
        Edges.answers("caba", 1.0, "exponent", 0, 4);
        Edges.answers("caba", 1.5, "exponent", 1, 4);
        Edges.answers("caba", 1.0, "exponent", 3, 4);
        Edges.sentence(33, "`to`: the place behind the last letter");
        Edges.answersInside("b", 1.0, "exponent");
        Edges.answersInside("bb", 2.0, "exponent");
        Edges.answersInside("ab", 1.0, "exponent");
        Edges.answersInside("abaab", 5.0 / 3.0, "exponent");
        Edges.answers("abac", 1.0, "exponent", 0, 1);
        Edges.answers("abac", 1.5, "exponent", 0, 3);
        Edges.answers("abac", 1.0, "exponent", 0, 4);
        Edges.sentence(33, "Returns the exponent, 1.0 or more.");
        Edges.answers("c", 1.0, "exponent", 0, 1);
        Edges.answers("cd", 1.0, "exponent", 0, 2);
        Edges.answers("cc", 2.0, "exponent", 0, 2);
        Edges.answers(RISING, 1.0, "exponent", 0, 64);
        Edges.answers("b" + Edges.same('a', 62) + "b", 64.0 / 63.0, "exponent", 0, 64);
        Edges.answers(SAME, 64.0, "exponent", 0, 64);
        Edges.sentence(33, "Throws `IndexOutOfBoundsException` if there is no such part");
        Edges.refusesNoPart("exponent", Edges.FROM, Edges.TO);
    }
}
