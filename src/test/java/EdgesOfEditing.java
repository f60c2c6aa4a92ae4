/** The boundary cases of the promises 1 to 9. */
final class EdgesOfEditing {
    private static final String ALMOST = Edges.FULL.substring(0, 63);

    private EdgesOfEditing() {
    }

    static void test() {
        newObject();
        append();
        insert();
        insertRefused();
        set();
        remove();
        clear();
        reverse();
        rotate();
        rotateRefused();
        appendPart();
        appendPartRefused();
    }

    private static void newObject() {
        Edges.sentence(1, "An empty text.");
        for (String method : new String[] {"length", "factors", "runs", "squares", "clear", "reverse"}) {
            Edges.answers("", 0, method);
        }
        Edges.answers("", 0.0, "exponentsOfRuns");
        Edges.answers("", 0, "commonPrefix", 0, 0);
        Edges.refuses("", Edges.INDEX, "letterAt", 0);
        Edges.refuses("", Edges.STATE, "rotate", 0);
        Edges.refuses("", Edges.INDEX, "isLyndon", 0, 1);
        LyndonText one = new LyndonText();
        LyndonText other = new LyndonText();
        one.append(3);
        Check.same("length() of a new object beside one with a letter", other.length(), 0);
        Check.same("length() of one made after it", new LyndonText().length(), 0);
    }

    private static void append() {
        Edges.sentence(2, "Adds a letter at the end.");
        Edges.edits("", "c", 1, "append", 2);
        Edges.edits("ab", "abc", 3, "append", 2);
        Edges.edits(ALMOST, ALMOST + "c", 64, "append", 2);
        Edges.sentence(2, "`letter`: 0 to 25");
        Edges.edits("b", "ba", 2, "append", 0);
        Edges.edits("b", "bb", 2, "append", 1);
        Edges.edits("b", "by", 2, "append", 24);
        Edges.edits("b", "bz", 2, "append", 25);
        Edges.sentence(2, "Returns the length of the text then.");
        Edges.edits("", "z", 1, "append", 25);
        Edges.edits("z", "za", 2, "append", 0);
        Edges.edits(ALMOST, ALMOST + "a", 64, "append", 0);
        Edges.sentence(2, "Throws `IllegalArgumentException` if letter is out of range");
        Edges.refusesOutside("", 0, 25, Edges.ARGUMENT, "append", Edges.HERE);
        Edges.refusesOutside("b", 0, 25, Edges.ARGUMENT, "append", Edges.HERE);
        Edges.refusesOutside(ALMOST, 0, 25, Edges.ARGUMENT, "append", Edges.HERE);
        Edges.sentence(2, "Throws `IllegalStateException` if the text has 64 letters");
        Edges.edits(Edges.FULL.substring(0, 62), Edges.FULL.substring(0, 62) + "z", 63, "append", 25);
        Edges.edits(ALMOST, ALMOST + "z", 64, "append", 25);
        Edges.refuses(Edges.FULL, Edges.STATE, "append", 0);
        Edges.refuses(Edges.FULL, Edges.STATE, "append", 25);
    }

    private static void insert() {
        Edges.sentence(3, "Puts a letter ahead of a place.");
        Edges.edits("abc", "abzc", 4, "insert", 2, 25);
        Edges.edits("abc", "azbc", 4, "insert", 1, 25);
        Edges.sentence(3, "`place`: 0 to length()");
        Edges.edits("", "c", 1, "insert", 0, 2);
        Edges.edits("ab", "cab", 3, "insert", 0, 2);
        Edges.edits("ab", "abc", 3, "insert", 2, 2);
        Edges.edits(ALMOST, "z" + ALMOST, 64, "insert", 0, 25);
        Edges.edits(ALMOST, ALMOST.substring(0, 62) + "z" + ALMOST.substring(62), 64, "insert", 62, 25);
        Edges.edits(ALMOST, ALMOST + "z", 64, "insert", 63, 25);
        Edges.sentence(3, "`letter`: 0 to 25");
        Edges.edits("b", "ab", 2, "insert", 0, 0);
        Edges.edits("b", "bb", 2, "insert", 0, 1);
        Edges.edits("b", "yb", 2, "insert", 0, 24);
        Edges.edits("b", "zb", 2, "insert", 0, 25);
        Edges.sentence(3, "Returns the length of the text then.");
        Edges.edits("", "z", 1, "insert", 0, 25);
        Edges.edits("z", "za", 2, "insert", 1, 0);
        Edges.edits(ALMOST, "a" + ALMOST, 64, "insert", 0, 0);
    }

    private static void insertRefused() {
        Edges.sentence(3, "Throws `IndexOutOfBoundsException` if there is no such place");
        Edges.refusesOutside("", 0, 0, Edges.INDEX, "insert", Edges.HERE, 0);
        Edges.refusesOutside("ab", 0, 2, Edges.INDEX, "insert", Edges.HERE, 0);
        Edges.refusesOutside(ALMOST, 0, 63, Edges.INDEX, "insert", Edges.HERE, 0);
        Edges.refusesOutside(Edges.FULL, 0, 64, Edges.INDEX, "insert", Edges.HERE, 0);
        Edges.sentence(3, "Throws `IllegalArgumentException` if letter is out of range");
        Edges.refusesOutside("", 0, 25, Edges.ARGUMENT, "insert", 0, Edges.HERE);
        Edges.refusesOutside("ab", 0, 25, Edges.ARGUMENT, "insert", 0, Edges.HERE);
        Edges.refusesOutside("ab", 0, 25, Edges.ARGUMENT, "insert", 2, Edges.HERE);
        Edges.sentence(3, "Throws `IllegalStateException` if the text has 64 letters");
        Edges.edits(ALMOST, "c" + ALMOST, 64, "insert", 0, 2);
        for (int place : new int[] {0, 1, 31, 63, 64}) {
            Edges.refuses(Edges.FULL, Edges.STATE, "insert", place, 0);
            Edges.refuses(Edges.FULL, Edges.STATE, "insert", place, 25);
        }
    }

    private static void set() {
        Edges.sentence(4, "Changes a letter.");
        Edges.edits("abc", "azc", 1, "set", 1, 25);
        Edges.edits("abc", "abc", 1, "set", 1, 1);
        Edges.sentence(4, "`place`: 0 or more, less than length()");
        Edges.edits("c", "d", 2, "set", 0, 3);
        Edges.edits("abc", "dbc", 0, "set", 0, 3);
        Edges.edits("abc", "abd", 2, "set", 2, 3);
        Edges.edits(Edges.FULL, "d" + Edges.FULL.substring(1), 0, "set", 0, 3);
        Edges.edits(Edges.FULL, ALMOST + "d", 11, "set", 63, 3);
        Edges.sentence(4, "`letter`: 0 to 25");
        Edges.edits("b", "a", 1, "set", 0, 0);
        Edges.edits("b", "b", 1, "set", 0, 1);
        Edges.edits("b", "y", 1, "set", 0, 24);
        Edges.edits("b", "z", 1, "set", 0, 25);
        Edges.sentence(4, "Returns the letter before.");
        Edges.edits("az", "zz", 0, "set", 0, 25);
        Edges.edits("az", "aa", 25, "set", 1, 0);
        Edges.sentence(4, "Throws `IndexOutOfBoundsException` if there is no such place");
        Edges.refuses("", Edges.INDEX, "set", 0, 0);
        Edges.refusesOutside("", 0, -1, Edges.INDEX, "set", Edges.HERE, 0);
        Edges.refusesOutside("ab", 0, 1, Edges.INDEX, "set", Edges.HERE, 0);
        Edges.refusesOutside(Edges.FULL, 0, 63, Edges.INDEX, "set", Edges.HERE, 0);
        Edges.sentence(4, "Throws `IllegalArgumentException` if letter is out of range");
        Edges.refusesOutside("ab", 0, 25, Edges.ARGUMENT, "set", 0, Edges.HERE);
        Edges.refusesOutside("ab", 0, 25, Edges.ARGUMENT, "set", 1, Edges.HERE);
        Edges.refusesOutside(Edges.FULL, 0, 25, Edges.ARGUMENT, "set", 63, Edges.HERE);
    }

    private static void remove() {
        Edges.sentence(5, "Takes a letter out.");
        Edges.edits("abc", "ac", 1, "remove", 1);
        Edges.sentence(5, "`place`: 0 or more, less than length()");
        Edges.edits("c", "", 2, "remove", 0);
        Edges.edits("abc", "bc", 0, "remove", 0);
        Edges.edits("abc", "ab", 2, "remove", 2);
        Edges.edits(Edges.FULL, Edges.FULL.substring(1), 0, "remove", 0);
        Edges.edits(Edges.FULL, ALMOST, 11, "remove", 63);
        Edges.sentence(5, "Returns the letter.");
        Edges.edits("az", "z", 0, "remove", 0);
        Edges.edits("az", "a", 25, "remove", 1);
        Edges.sentence(5, "Throws `IndexOutOfBoundsException` if there is no such place");
        Edges.refuses("", Edges.INDEX, "remove", 0);
        Edges.refusesOutside("", 0, -1, Edges.INDEX, "remove", Edges.HERE);
        Edges.refusesOutside("c", 0, 0, Edges.INDEX, "remove", Edges.HERE);
        Edges.refusesOutside("abc", 0, 2, Edges.INDEX, "remove", Edges.HERE);
        Edges.refusesOutside(Edges.FULL, 0, 63, Edges.INDEX, "remove", Edges.HERE);
    }

    private static void clear() {
        Edges.sentence(6, "Empties the text; returns its length before.");
        Edges.edits("", "", 0, "clear");
        Edges.edits("c", "", 1, "clear");
        Edges.edits("abc", "", 3, "clear");
        Edges.edits(Edges.FULL, "", 64, "clear");
        LyndonText x = Check.textOf(Edges.FULL);
        Check.same("clear() of 64", Edges.answer(x, "clear"), 64);
        Check.same("append(2) of a cleared text", Edges.answer(x, "append", 2), 1);
        Check.same("clear() of one letter then", Edges.answer(x, "clear"), 1);
        Check.same("clear() again", Edges.answer(x, "clear"), 0);
    }

    private static void reverse() {
        Edges.sentence(7, "Turns the text around, the last letter first; returns its length.");
        Edges.edits("", "", 0, "reverse");
        Edges.edits("c", "c", 1, "reverse");
        Edges.edits("ab", "ba", 2, "reverse");
        Edges.edits("abc", "cba", 3, "reverse");
        Edges.edits("abcd", "dcba", 4, "reverse");
        Edges.edits(ALMOST, new StringBuilder(ALMOST).reverse().toString(), 63, "reverse");
        Edges.edits(Edges.FULL, new StringBuilder(Edges.FULL).reverse().toString(), 64, "reverse");
    }

    private static void rotate() {
        Edges.sentence(8, "Rotates the text.");
        Edges.edits("abcd", "cdab", 2, "rotate", 2);
        Edges.sentence(8, "`letters`: 0 to 63: by how many letters");
        Edges.edits("abc", "abc", 0, "rotate", 0);
        Edges.edits("abc", "bca", 1, "rotate", 1);
        Edges.edits("abc", "cab", 2, "rotate", 62);
        Edges.edits("abc", "abc", 0, "rotate", 63);
        Edges.edits(Edges.FULL, Edges.FULL, 0, "rotate", 0);
        Edges.edits(Edges.FULL, Edges.FULL.substring(1) + "a", 1, "rotate", 1);
        Edges.edits(Edges.FULL, Edges.FULL.substring(62) + Edges.FULL.substring(0, 62), 10, "rotate", 62);
        Edges.edits(Edges.FULL, "l" + ALMOST, 11, "rotate", 63);
        Edges.sentence(8, "more than the length of the text goes round more than once");
        Edges.edits("c", "c", 2, "rotate", 0);
        Edges.edits("c", "c", 2, "rotate", 1);
        Edges.edits("c", "c", 2, "rotate", 2);
        Edges.edits("c", "c", 2, "rotate", 63);
        Edges.edits("abcde", "eabcd", 4, "rotate", 4);
        Edges.edits("abcde", "abcde", 0, "rotate", 5);
        Edges.edits("abcde", "bcdea", 1, "rotate", 6);
        Edges.edits("abcde", "eabcd", 4, "rotate", 9);
        Edges.edits("abcde", "abcde", 0, "rotate", 10);
        Edges.edits("abcde", "bcdea", 1, "rotate", 11);
        Edges.edits("abcde", "cdeab", 2, "rotate", 62);
        Edges.edits("abcde", "deabc", 3, "rotate", 63);
        Edges.edits(ALMOST, "k" + ALMOST.substring(0, 62), 10, "rotate", 62);
        Edges.edits(ALMOST, ALMOST, 0, "rotate", 63);
        Edges.edits(ALMOST.substring(0, 62), ALMOST.substring(1, 62) + "a", 1, "rotate", 63);
        Edges.sentence(8, "Returns the first letter then.");
        Edges.edits("az", "az", 0, "rotate", 0);
        Edges.edits("az", "za", 25, "rotate", 1);
    }

    private static void rotateRefused() {
        Edges.sentence(8, "Throws `IllegalArgumentException` if letters is out of range");
        Edges.refusesOutside("c", 0, 63, Edges.ARGUMENT, "rotate", Edges.HERE);
        Edges.refusesOutside("abc", 0, 63, Edges.ARGUMENT, "rotate", Edges.HERE);
        Edges.refusesOutside(Edges.FULL, 0, 63, Edges.ARGUMENT, "rotate", Edges.HERE);
        Edges.sentence(8, "Throws `IllegalStateException` if the text is empty");
        Edges.refuses("", Edges.STATE, "rotate", 0);
        Edges.refuses("", Edges.STATE, "rotate", 1);
        Edges.refuses("", Edges.STATE, "rotate", 63);
        Edges.edits("c", "c", 2, "rotate", 0);
    }

    private static void appendPart() {
        String half = Edges.FULL.substring(0, 32);
        Edges.sentence(9, "Adds a copy of a part at the end.");
        Edges.edits("abcd", "abcdbc", 6, "appendPart", 1, 3);
        Edges.sentence(9, "`from`: the first place");
        Edges.edits("abcd", "abcda", 5, "appendPart", 0, 1);
        Edges.edits("abcd", "abcdd", 5, "appendPart", 3, 4);
        Edges.sentence(9, "`to`: the place behind the last letter");
        Edges.edits("abcd", "abcdabcd", 8, "appendPart", 0, 4);
        Edges.edits("abcd", "abcdcd", 6, "appendPart", 2, 4);
        Edges.edits("abcd", "abcdc", 5, "appendPart", 2, 3);
        Edges.sentence(9, "Returns the length of the text then.");
        Edges.edits("a", "aa", 2, "appendPart", 0, 1);
        Edges.edits("ab", "abb", 3, "appendPart", 1, 2);
        Edges.edits(half, half + half, 64, "appendPart", 0, 32);
        // A part that fills the text to its last place.
        Edges.edits(ALMOST, ALMOST + "k", 64, "appendPart", 62, 63);
        Edges.edits(ALMOST, ALMOST + "a", 64, "appendPart", 0, 1);
        Edges.edits(half + "z", half + "z" + half.substring(1), 64, "appendPart", 1, 32);
    }

    private static void appendPartRefused() {
        String half = Edges.FULL.substring(0, 32);
        Edges.sentence(9, "Throws `IndexOutOfBoundsException` if there is no such part");
        Edges.refusesNoPart("appendPart", Edges.FROM, Edges.TO);
        Edges.sentence(9, "Throws `IllegalStateException` if the text would have more than 64 letters");
        // One letter more than the text has room for.
        Edges.refuses(Edges.FULL, Edges.STATE, "appendPart", 0, 1);
        Edges.refuses(Edges.FULL, Edges.STATE, "appendPart", 63, 64);
        Edges.refuses(Edges.FULL, Edges.STATE, "appendPart", 0, 64);
        Edges.refuses(ALMOST, Edges.STATE, "appendPart", 0, 2);
        Edges.refuses(ALMOST, Edges.STATE, "appendPart", 61, 63);
        Edges.refuses(half + "z", Edges.STATE, "appendPart", 0, 32);
        Edges.refuses(half + "z", Edges.STATE, "appendPart", 0, 33);
        Edges.edits(half, half + half, 64, "appendPart", 0, 32);
        Edges.edits(half + "z", half + "z" + half.substring(0, 31), 64, "appendPart", 0, 31);
    }
}
