/**
 * Each promise with answers that are written out: ordinary inputs, the edges that the document names, and wrong
 * inputs, of which each must throw what the document says and leave the text as it was.
 */
final class PromisesTest {
    private static final Class<?> INDEX = IndexOutOfBoundsException.class;
    private static final Class<?> ARGUMENT = IllegalArgumentException.class;
    private static final Class<?> STATE = IllegalStateException.class;
    private static final int[] OUTSIDE = {-1, Integer.MIN_VALUE, Integer.MAX_VALUE};

    private static final String MIXED = "aabaabac";
    private static final String FULL = "abcdefghijklmnopqrstuvwxyzabcdefghijklmnopqrstuvwxyzabcdefghijkl";

    private interface PartCall {
        void on(LyndonText x, int from, int to);
    }

    private interface PlaceCall {
        void on(LyndonText x, int place);
    }

    private PromisesTest() {
    }

    public static void main(String[] args) {
        newObject();
        append();
        insert();
        set();
        remove();
        clear();
        reverse();
        rotate();
        appendPart();
        loadDeBruijn();
        loadNecklace();
        lengthAndLetterAt();
        compare();
        commonPrefix();
        isLyndon();
        factors();
        longestLyndon();
        standardFactor();
        rotations();
        isNecklace();
        periods();
        isPeriod();
        border();
        rootLength();
        exponent();
        runs();
        runsOver();
        exponentsOfRuns();
        squares();
        suffixes();
        necklaces();
        lyndonWords();
        necklaceNumber();
        partsThatAreNone();
        Check.finish("PromisesTest");
    }

    private static LyndonText text(String letters) {
        return Check.textOf(letters);
    }

    private static void letters(String what, LyndonText x, String due) {
        Check.same(what + ": the text", Check.lettersOf(x), due);
    }

    private static void noPlace(String what, String letters, int behind, PlaceCall call) {
        for (int place : new int[] {-1, behind, behind + 1, Integer.MIN_VALUE, Integer.MAX_VALUE}) {
            LyndonText x = text(letters);
            Check.refused(what + "(" + place + ")", x, INDEX, () -> call.on(x, place));
        }
        LyndonText empty = new LyndonText();
        Check.refused(what + "(1) of an empty text", empty, INDEX, () -> call.on(empty, 1));
    }

    private static void newObject() {
        LyndonText x = new LyndonText();
        Check.same("length()", x.length(), 0);
        Check.same("factors()", x.factors(), 0);
        Check.same("runs()", x.runs(), 0);
        Check.same("squares()", x.squares(), 0);
        Check.same("exponentsOfRuns()", x.exponentsOfRuns(), 0.0);
        Check.same("clear()", x.clear(), 0);
        Check.same("reverse()", x.reverse(), 0);
        Check.same("commonPrefix(0, 0)", x.commonPrefix(0, 0), 0);
        LyndonText other = new LyndonText();
        x.append(3);
        Check.same("length() of another object", other.length(), 0);
    }

    private static void append() {
        LyndonText x = new LyndonText();
        Check.same("append(0)", x.append(0), 1);
        Check.same("append(25)", x.append(25), 2);
        letters("append", x, "az");
        for (int letter : new int[] {-1, 26, Integer.MIN_VALUE, Integer.MAX_VALUE}) {
            Check.refused("append(" + letter + ")", x, ARGUMENT, () -> x.append(letter));
        }
        for (int length = 3; length <= 64; length++) {
            Check.same("append to " + length, x.append(length % 26), length);
        }
        Check.refused("append to 65", x, STATE, () -> x.append(1));
        Check.refused("append(26) to 65", x, ARGUMENT, () -> x.append(26));
        x.remove(10);
        Check.same("append after remove", x.append(1), 64);
    }

    private static void insert() {
        LyndonText x = new LyndonText();
        Check.same("insert(0, 2)", x.insert(0, 2), 1);
        Check.same("insert(0, 0)", x.insert(0, 0), 2);
        Check.same("insert(1, 25)", x.insert(1, 25), 3);
        Check.same("insert(3, 1)", x.insert(3, 1), 4);
        letters("insert", x, "azcb");
        for (int place : new int[] {-1, 5, Integer.MIN_VALUE, Integer.MAX_VALUE}) {
            Check.refused("insert(" + place + ", 1)", x, INDEX, () -> x.insert(place, 1));
            Check.refused("insert(" + place + ", 26)", x, INDEX, () -> x.insert(place, 26));
        }
        Check.refused("insert(4, 26)", x, ARGUMENT, () -> x.insert(4, 26));
        Check.refused("insert(0, -1)", x, ARGUMENT, () -> x.insert(0, -1));
        LyndonText full = text(FULL);
        Check.refused("insert(0, 0) in 64", full, STATE, () -> full.insert(0, 0));
        Check.refused("insert(64, 0) in 64", full, STATE, () -> full.insert(64, 0));
        LyndonText other = text(FULL);
        Check.refused("insert(65, 0) in 64", other, INDEX, () -> other.insert(65, 0));
        Check.refused("insert(64, 26) in 64", other, ARGUMENT, () -> other.insert(64, 26));
        LyndonText almost = text(FULL.substring(0, 63));
        Check.same("insert(0, 25) in 63", almost.insert(0, 25), 64);
        letters("insert at the beginning", almost, "z" + FULL.substring(0, 63));
    }

    private static void set() {
        LyndonText x = text("abc");
        Check.same("set(0, 25)", x.set(0, 25), 0);
        Check.same("set(2, 0)", x.set(2, 0), 2);
        Check.same("set(2, 1)", x.set(2, 1), 0);
        letters("set", x, "zbb");
        noPlace("set", "abc", 3, (y, place) -> y.set(place, 1));
        noPlace("set to a wrong letter", "abc", 3, (y, place) -> y.set(place, 26));
        Check.refused("set(0, 26)", x, ARGUMENT, () -> x.set(0, 26));
        Check.refused("set(0, -1)", x, ARGUMENT, () -> x.set(0, -1));
        LyndonText full = text(FULL);
        Check.same("set(63, 25) in 64", full.set(63, 25), 11);
    }

    private static void remove() {
        LyndonText x = text("abcde");
        Check.same("remove(0)", x.remove(0), 0);
        Check.same("remove(3)", x.remove(3), 4);
        Check.same("remove(1)", x.remove(1), 2);
        letters("remove", x, "bd");
        noPlace("remove", "abc", 3, LyndonText::remove);
        LyndonText full = text(FULL);
        Check.same("remove(63) of 64", full.remove(63), 11);
        Check.same("remove(0) of 63", full.remove(0), 0);
        letters("remove at both ends", full, FULL.substring(1, 63));
    }

    private static void clear() {
        LyndonText x = text(FULL);
        Check.same("clear() of 64", x.clear(), 64);
        Check.same("length() then", x.length(), 0);
        Check.same("clear() again", x.clear(), 0);
        Check.refused("letterAt(0) then", x, INDEX, () -> x.letterAt(0));
        Check.same("append(4) then", x.append(4), 1);
        letters("append after clear", x, "e");
    }

    private static void reverse() {
        LyndonText x = text("abcd");
        Check.same("reverse()", x.reverse(), 4);
        letters("reverse of an even length", x, "dcba");
        x.append(25);
        Check.same("reverse()", x.reverse(), 5);
        letters("reverse of an odd length", x, "zabcd");
        LyndonText full = text(FULL);
        Check.same("reverse() of 64", full.reverse(), 64);
        letters("reverse of 64", full, new StringBuilder(FULL).reverse().toString());
    }

    private static void rotate() {
        LyndonText x = text("abcde");
        Check.same("rotate(0)", x.rotate(0), 0);
        letters("rotate(0)", x, "abcde");
        Check.same("rotate(2)", x.rotate(2), 2);
        letters("rotate(2)", x, "cdeab");
        Check.same("rotate(63)", x.rotate(63), 0);
        letters("rotate(63)", x, "abcde");
        Check.same("rotate(5)", x.rotate(5), 0);
        letters("rotate(5)", x, "abcde");
        for (int letters : new int[] {-1, 64, Integer.MIN_VALUE, Integer.MAX_VALUE}) {
            Check.refused("rotate(" + letters + ")", x, ARGUMENT, () -> x.rotate(letters));
        }
        LyndonText empty = new LyndonText();
        Check.refused("rotate(0) of nothing", empty, STATE, () -> empty.rotate(0));
        Check.refused("rotate(64) of nothing", empty, ARGUMENT, () -> empty.rotate(64));
        LyndonText full = text(FULL);
        Check.same("rotate(63) of 64", full.rotate(63), 11);
        letters("rotate(63) of 64", full, "l" + FULL.substring(0, 63));
    }

    private static void appendPart() {
        LyndonText x = text("abc");
        Check.same("appendPart(1, 3)", x.appendPart(1, 3), 5);
        Check.same("appendPart(0, 5)", x.appendPart(0, 5), 10);
        Check.same("appendPart(9, 10)", x.appendPart(9, 10), 11);
        letters("appendPart", x, "abcbcabcbcc");
        LyndonText half = text(FULL.substring(0, 32));
        Check.same("appendPart(0, 32)", half.appendPart(0, 32), 64);
        letters("appendPart to 64", half, FULL.substring(0, 32) + FULL.substring(0, 32));
        Check.refused("appendPart(0, 1) to 65", half, STATE, () -> half.appendPart(0, 1));
        Check.refused("appendPart(0, 65) of 64", half, INDEX, () -> half.appendPart(0, 65));
        LyndonText more = text(FULL.substring(0, 33));
        Check.refused("appendPart(0, 33) to 66", more, STATE, () -> more.appendPart(0, 33));
        Check.refused("appendPart(1, 33) to 65", more, STATE, () -> more.appendPart(1, 33));
    }

    private static void loadDeBruijn() {
        LyndonText x = text("zzz");
        Check.same("loadDeBruijn(2, 3)", x.loadDeBruijn(2, 3), 8);
        letters("loadDeBruijn(2, 3)", x, "aaababbb");
        Check.same("loadDeBruijn(2, 4)", x.loadDeBruijn(2, 4), 16);
        letters("loadDeBruijn(2, 4)", x, "aaaabaabbababbbb");
        Check.same("loadDeBruijn(3, 2)", x.loadDeBruijn(3, 2), 9);
        letters("loadDeBruijn(3, 2)", x, "aabacbbcc");
        Check.same("loadDeBruijn(8, 1)", x.loadDeBruijn(8, 1), 8);
        letters("loadDeBruijn(8, 1)", x, "abcdefgh");
        Check.same("loadDeBruijn(1, 6)", x.loadDeBruijn(1, 6), 1);
        letters("loadDeBruijn(1, 6)", x, "a");
        Check.same("loadDeBruijn(1, 1)", x.loadDeBruijn(1, 1), 1);
        Check.same("loadDeBruijn(8, 2)", x.loadDeBruijn(8, 2), 64);
        Check.same("loadDeBruijn(4, 3)", x.loadDeBruijn(4, 3), 64);
        Check.same("loadDeBruijn(2, 6)", x.loadDeBruijn(2, 6), 64);
        letters("loadDeBruijn(2, 6)", x, "a" + "aaaaab" + "aaaabb" + "aaabab" + "aaabbb" + "aab" + "aababb"
                + "aabbab" + "aabbbb" + "ab" + "ababbb" + "abb" + "abbbbb" + "b");
        int[][] wrong = {{0, 1}, {9, 1}, {1, 0}, {1, 7}, {-1, 2}, {2, -1}, {8, 3}, {5, 3}, {3, 4}, {8, 6},
            {Integer.MAX_VALUE, 1}, {1, Integer.MAX_VALUE}, {Integer.MIN_VALUE, 1}, {1, Integer.MIN_VALUE}};
        for (int[] pair : wrong) {
            LyndonText y = text(FULL);
            Check.refused("loadDeBruijn(" + pair[0] + ", " + pair[1] + ")", y, ARGUMENT,
                    () -> y.loadDeBruijn(pair[0], pair[1]));
        }
    }

    private static void loadNecklace() {
        LyndonText x = text("zzz");
        String[] due = {"aaaa", "aaab", "aabb", "abab", "abbb", "bbbb"};
        int[] roots = {1, 4, 4, 2, 4, 1};
        for (int number = 0; number < due.length; number++) {
            Check.same("loadNecklace(2, 4, " + number + ")", x.loadNecklace(2, 4, number), roots[number]);
            letters("loadNecklace(2, 4, " + number + ")", x, due[number]);
        }
        Check.same("loadNecklace(1, 8, 0)", x.loadNecklace(1, 8, 0), 1);
        letters("loadNecklace(1, 8, 0)", x, "aaaaaaaa");
        Check.same("loadNecklace(4, 1, 3)", x.loadNecklace(4, 1, 3), 1);
        letters("loadNecklace(4, 1, 3)", x, "d");
        Check.same("loadNecklace(4, 8, 8229)", x.loadNecklace(4, 8, 8229), 1);
        Check.same("loadNecklace(4, 8, 1)", x.loadNecklace(4, 8, 1), 8);
        letters("loadNecklace(4, 8, 1)", x, "aaaaaaab");
        Check.same("loadNecklace(3, 6, 129)", x.loadNecklace(3, 6, 129), 1);
        int[][] wrong = {{0, 4, 0}, {5, 4, 0}, {2, 0, 0}, {2, 9, 0}, {2, 4, -1}, {2, 4, 6}, {1, 8, 1}, {4, 8, 8230},
            {-1, 1, 0}, {4, -1, 0}, {Integer.MAX_VALUE, 1, 0}, {1, Integer.MAX_VALUE, 0}, {1, 1, Integer.MAX_VALUE},
            {Integer.MIN_VALUE, 1, 0}, {1, Integer.MIN_VALUE, 0}, {1, 1, Integer.MIN_VALUE}};
        for (int[] three : wrong) {
            Check.refused("loadNecklace(" + three[0] + ", " + three[1] + ", " + three[2] + ")", x, ARGUMENT,
                    () -> x.loadNecklace(three[0], three[1], three[2]));
        }
    }

    private static void lengthAndLetterAt() {
        Check.same("length() of 64", text(FULL).length(), 64);
        Check.same("length() of 3", text("abc").length(), 3);
        Check.same("letterAt(0)", text("azb").letterAt(0), 0);
        Check.same("letterAt(1)", text("azb").letterAt(1), 25);
        Check.same("letterAt(2)", text("azb").letterAt(2), 1);
        Check.same("letterAt(63)", text(FULL).letterAt(63), 11);
        noPlace("letterAt", "abc", 3, LyndonText::letterAt);
        noPlace("letterAt", FULL, 64, LyndonText::letterAt);
    }

    private static void compare() {
        LyndonText x = text("abaabb");
        Check.same("compare of the same", x.compare(0, 2, 3, 5), 0);
        Check.same("compare with itself", x.compare(0, 6, 0, 6), 0);
        Check.same("compare less", x.compare(2, 5, 0, 3), -1);
        Check.same("compare greater", x.compare(0, 3, 2, 5), 1);
        Check.same("compare with a longer one", x.compare(0, 2, 3, 6), -1);
        Check.same("compare with a shorter one", x.compare(3, 6, 0, 2), 1);
        Check.same("compare of far letters", text("az").compare(1, 2, 0, 1), 1);
        Check.same("compare of far letters", text("az").compare(0, 1, 1, 2), -1);
        // The letter behind the shorter part does not count.
        Check.same("compare with what it begins", text("abaa").compare(0, 1, 2, 4), -1);
        Check.refused("compare(0, 1, 0, 7)", x, INDEX, () -> x.compare(0, 1, 0, 7));
        Check.refused("compare(0, 1, 2, 2)", x, INDEX, () -> x.compare(0, 1, 2, 2));
        Check.refused("compare(0, 1, -1, 2)", x, INDEX, () -> x.compare(0, 1, -1, 2));
        Check.refused("compare(0, 1, 2, 1)", x, INDEX, () -> x.compare(0, 1, 2, 1));
    }

    private static void commonPrefix() {
        LyndonText x = text("aabaab");
        Check.same("commonPrefix(0, 3)", x.commonPrefix(0, 3), 3);
        Check.same("commonPrefix(3, 0)", x.commonPrefix(3, 0), 3);
        Check.same("commonPrefix(0, 1)", x.commonPrefix(0, 1), 1);
        Check.same("commonPrefix(0, 2)", x.commonPrefix(0, 2), 0);
        Check.same("commonPrefix(2, 2)", x.commonPrefix(2, 2), 4);
        Check.same("commonPrefix(6, 0)", x.commonPrefix(6, 0), 0);
        Check.same("commonPrefix(0, 6)", x.commonPrefix(0, 6), 0);
        Check.same("commonPrefix(6, 6)", x.commonPrefix(6, 6), 0);
        Check.same("commonPrefix(0, 64) of 64", text(FULL).commonPrefix(0, 64), 0);
        Check.same("commonPrefix(0, 26) of 64", text(FULL).commonPrefix(0, 26), 38);
        // What removed letters left behind the end does not count.
        LyndonText shorter = text("aaaa");
        shorter.remove(0);
        Check.same("commonPrefix(0, 1) of what is left", shorter.commonPrefix(0, 1), 2);
        noPlace("commonPrefix", "abc", 4, (y, place) -> y.commonPrefix(place, 0));
        noPlace("commonPrefix's other", "abc", 4, (y, place) -> y.commonPrefix(0, place));
    }

    private static void isLyndon() {
        LyndonText x = text(MIXED);
        Check.same("isLyndon of the whole", x.isLyndon(0, 8), true);
        Check.same("isLyndon of aab", x.isLyndon(0, 3), true);
        Check.same("isLyndon of aabaab", x.isLyndon(0, 6), false);
        Check.same("isLyndon of one letter", x.isLyndon(7, 8), true);
        Check.same("isLyndon of aa", x.isLyndon(0, 2), false);
        Check.same("isLyndon of ba", x.isLyndon(2, 4), false);
        Check.same("isLyndon of aba", x.isLyndon(1, 4), false);
        Check.same("isLyndon of abaab", x.isLyndon(1, 6), false);
        Check.same("isLyndon of 64", text("a".repeat(63) + "z").isLyndon(0, 64), true);
        Check.same("isLyndon of 64", text("z" + "a".repeat(63)).isLyndon(0, 64), false);
    }

    private static void factors() {
        LyndonText x = text("bbabaabaabacaa");
        int[] starts = {0, 1, 2, 4, 12, 13};
        int[] lengths = {1, 1, 2, 8, 1, 1};
        Check.same("factors()", x.factors(), 6);
        for (int factor = 0; factor < 6; factor++) {
            Check.same("factorStart(" + factor + ")", x.factorStart(factor), starts[factor]);
            Check.same("factorLength(" + factor + ")", x.factorLength(factor), lengths[factor]);
            for (int place = starts[factor]; place < starts[factor] + lengths[factor]; place++) {
                Check.same("factorOver(" + place + ")", x.factorOver(place), factor);
            }
        }
        LyndonText same = text("d".repeat(64));
        Check.same("factors() of 64 that are the same", same.factors(), 64);
        Check.same("factorStart(63)", same.factorStart(63), 63);
        Check.same("factorLength(63)", same.factorLength(63), 1);
        Check.same("factorOver(63)", same.factorOver(63), 63);
        Check.same("factors() of one letter", text("z").factors(), 1);
        Check.same("factors() of a power", text("ababab").factors(), 3);
        noPlace("factorStart", "bbab", 3, LyndonText::factorStart);
        noPlace("factorLength", "bbab", 3, LyndonText::factorLength);
        noPlace("factorOver", "bbab", 4, LyndonText::factorOver);
        noPlace("factorStart", "d".repeat(64), 64, LyndonText::factorStart);
        noPlace("factorLength", "d".repeat(64), 64, LyndonText::factorLength);
    }

    private static void longestLyndon() {
        LyndonText x = text(MIXED);
        int[] due = {8, 2, 1, 5, 4, 1, 2, 1};
        int[] reversed = {1, 1, 3, 1, 1, 2, 1, 1};
        for (int place = 0; place < 8; place++) {
            Check.same("longestLyndon(" + place + ", false)", x.longestLyndon(place, false), due[place]);
            Check.same("longestLyndon(" + place + ", true)", x.longestLyndon(place, true), reversed[place]);
        }
        Check.same("longestLyndon of z and a's", text("z" + "a".repeat(63)).longestLyndon(0, true), 64);
        Check.same("longestLyndon of a's and z", text("a".repeat(63) + "z").longestLyndon(0, false), 64);
        // Also in the reversed order a word comes ahead of a longer one that begins with it.
        Check.same("longestLyndon of bab", text("bab").longestLyndon(0, true), 2);
        noPlace("longestLyndon", "abc", 3, (y, place) -> y.longestLyndon(place, false));
        noPlace("longestLyndon reversed", "abc", 3, (y, place) -> y.longestLyndon(place, true));
    }

    private static void standardFactor() {
        LyndonText x = text("c" + MIXED);
        Check.same("standardFactor(1, 9)", x.standardFactor(1, 9), 4);
        Check.same("standardFactor of aab", x.standardFactor(1, 4), 2);
        Check.same("standardFactor of ab", x.standardFactor(2, 4), 3);
        Check.same("standardFactor of ac", x.standardFactor(7, 9), 8);
        Check.same("standardFactor of 64", text("a".repeat(63) + "b").standardFactor(0, 64), 1);
        Check.same("standardFactor of abb", text("abb").standardFactor(0, 3), 2);
        Check.refused("standardFactor of one letter", x, STATE, () -> x.standardFactor(1, 2));
        Check.refused("standardFactor of aa", x, STATE, () -> x.standardFactor(1, 3));
        Check.refused("standardFactor of aabaab", x, STATE, () -> x.standardFactor(1, 7));
        Check.refused("standardFactor of ca", x, STATE, () -> x.standardFactor(0, 2));
        Check.refused("standardFactor(0, 10)", x, INDEX, () -> x.standardFactor(0, 10));
    }

    private static void rotations() {
        LyndonText x = text("cbabab");
        Check.same("leastRotation of the whole", x.leastRotation(0, 6), 2);
        Check.same("greatestRotation of the whole", x.greatestRotation(0, 6), 0);
        Check.same("leastRotation of baba", x.leastRotation(1, 5), 1);
        Check.same("greatestRotation of baba", x.greatestRotation(1, 5), 0);
        Check.same("greatestRotation of abab", x.greatestRotation(2, 6), 1);
        Check.same("leastRotation of abab", x.leastRotation(2, 6), 0);
        Check.same("leastRotation of one letter", x.leastRotation(5, 6), 0);
        Check.same("greatestRotation of one letter", x.greatestRotation(5, 6), 0);
        Check.same("rotations of the whole", x.rotations(0, 6), 6);
        Check.same("rotations of baba", x.rotations(1, 5), 2);
        Check.same("rotations of bab", x.rotations(1, 4), 3);
        Check.same("rotations of one letter", x.rotations(5, 6), 1);
        LyndonText same = text("d".repeat(64));
        Check.same("leastRotation of 64 that are the same", same.leastRotation(0, 64), 0);
        Check.same("greatestRotation of 64 that are the same", same.greatestRotation(0, 64), 0);
        Check.same("rotations of 64 that are the same", same.rotations(0, 64), 1);
        LyndonText last = text("b".repeat(63) + "a");
        Check.same("leastRotation of 64", last.leastRotation(0, 64), 63);
        last.set(63, 2);
        Check.same("greatestRotation of 64", last.greatestRotation(0, 64), 63);
        Check.same("rotations of 64", last.rotations(0, 64), 64);
    }

    private static void isNecklace() {
        LyndonText x = text("aabaabb");
        Check.same("isNecklace of aabaab", x.isNecklace(0, 6), true);
        Check.same("isNecklace of aab", x.isNecklace(0, 3), true);
        Check.same("isNecklace of aaba", x.isNecklace(0, 4), false);
        Check.same("isNecklace of aabaa", x.isNecklace(0, 5), false);
        Check.same("isNecklace of the whole", x.isNecklace(0, 7), true);
        Check.same("isNecklace of abaab", x.isNecklace(1, 6), false);
        Check.same("isNecklace of one letter", x.isNecklace(6, 7), true);
        Check.same("isNecklace of 64 that are the same", text("z".repeat(64)).isNecklace(0, 64), true);
        Check.same("isNecklace of 64", text("b".repeat(63) + "a").isNecklace(0, 64), false);
    }

    private static void periods() {
        String[] texts = {"a", "ab", "aa", "aba", "abab", "aabaab", "abaab", "aabaabaa", "abcabcab", "abacabadabacaba",
            "z".repeat(64), "ab".repeat(32), "a".repeat(63) + "b"};
        int[] least = {1, 2, 1, 2, 2, 3, 3, 3, 3, 8, 1, 2, 64};
        int[] all = {1, 1, 2, 2, 2, 2, 2, 4, 3, 4, 64, 32, 1};
        for (int i = 0; i < texts.length; i++) {
            LyndonText x = text(texts[i]);
            int to = texts[i].length();
            Check.same("period of " + texts[i], x.period(0, to), least[i]);
            Check.same("periodByTrying of " + texts[i], x.periodByTrying(0, to), least[i]);
            Check.same("border of " + texts[i], x.border(0, to), to - least[i]);
            Check.same("periods of " + texts[i], x.periods(0, to), all[i]);
        }
        LyndonText inside = text("zababy");
        Check.same("period of a part inside", inside.period(1, 5), 2);
        Check.same("periodByTrying of a part inside", inside.periodByTrying(1, 5), 2);
        Check.same("periods of a part inside", inside.periods(1, 5), 2);
    }

    private static void isPeriod() {
        LyndonText x = text("zabaabay");
        boolean[] due = {false, false, true, false, true, true};
        for (int period = 1; period <= 6; period++) {
            Check.same("isPeriod(1, 7, " + period + ")", x.isPeriod(1, 7, period), due[period - 1]);
        }
        Check.same("isPeriod of one letter", x.isPeriod(0, 1, 1), true);
        Check.same("isPeriod(0, 64, 64)", text(FULL).isPeriod(0, 64, 64), true);
        Check.same("isPeriod(0, 64, 26)", text(FULL).isPeriod(0, 64, 26), true);
        Check.same("isPeriod(0, 64, 25)", text(FULL).isPeriod(0, 64, 25), false);
        for (int period : new int[] {0, 7, -1, Integer.MIN_VALUE, Integer.MAX_VALUE}) {
            Check.refused("isPeriod(1, 7, " + period + ")", x, ARGUMENT, () -> x.isPeriod(1, 7, period));
            Check.refused("isPeriod(1, 9, " + period + ")", x, INDEX, () -> x.isPeriod(1, 9, period));
        }
    }

    private static void border() {
        LyndonText x = text("zabaabay");
        Check.same("border of abaaba", x.border(1, 7), 3);
        Check.same("border of abaab", x.border(1, 6), 2);
        Check.same("border of the whole", x.border(0, 8), 0);
        Check.same("border of one letter", x.border(0, 1), 0);
        Check.same("border of 64 that are the same", text("b".repeat(64)).border(0, 64), 63);
    }

    private static void rootLength() {
        LyndonText x = text("zababaabaab");
        Check.same("rootLength of abab", x.rootLength(1, 5), 2);
        Check.same("rootLength of ababa", x.rootLength(1, 6), 5);
        Check.same("rootLength of abaabaab", x.rootLength(3, 11), 8);
        Check.same("rootLength of baabaa", x.rootLength(4, 10), 3);
        Check.same("rootLength of one letter", x.rootLength(0, 1), 1);
        Check.same("rootLength of 64 that are the same", text("b".repeat(64)).rootLength(0, 64), 1);
        Check.same("rootLength of 64", text("a".repeat(31) + "b" + "a".repeat(31) + "b").rootLength(0, 64), 32);
    }

    private static void exponent() {
        LyndonText x = text("zababaabaab");
        Check.same("exponent of ababa", x.exponent(1, 6), 2.5);
        Check.same("exponent of abaabaab", x.exponent(3, 11), 8.0 / 3);
        Check.same("exponent of one letter", x.exponent(0, 1), 1.0);
        Check.same("exponent of the whole", x.exponent(0, 11), 1.0);
        Check.same("exponent of 64 that are the same", text("b".repeat(64)).exponent(0, 64), 64.0);
        Check.same("exponent of 64", text(FULL).exponent(0, 64), 64.0 / 26);
    }

    private static void sameRuns(String letters, int[][] due) {
        LyndonText x = text(letters);
        Check.same("runs() of " + letters, x.runs(), due.length);
        for (int run = 0; run < due.length; run++) {
            Check.same("runStart(" + run + ") of " + letters, x.runStart(run), due[run][0]);
            Check.same("runEnd(" + run + ") of " + letters, x.runEnd(run), due[run][1]);
            Check.same("runPeriod(" + run + ") of " + letters, x.runPeriod(run), due[run][2]);
        }
        noPlace("runStart", letters, due.length, LyndonText::runStart);
        noPlace("runEnd", letters, due.length, LyndonText::runEnd);
        noPlace("runPeriod", letters, due.length, LyndonText::runPeriod);
    }

    private static void runs() {
        sameRuns("a", new int[][] {});
        sameRuns("ab", new int[][] {});
        sameRuns("aa", new int[][] {{0, 2, 1}});
        sameRuns(MIXED, new int[][] {{0, 2, 1}, {0, 7, 3}, {3, 5, 1}});
        sameRuns("aabaabb", new int[][] {{0, 2, 1}, {0, 6, 3}, {3, 5, 1}, {5, 7, 1}});
        // The power of a power is no run of the greater period.
        sameRuns("abababab", new int[][] {{0, 8, 2}});
        sameRuns("z".repeat(64), new int[][] {{0, 64, 1}});
        sameRuns("ab".repeat(32), new int[][] {{0, 64, 2}});
        sameRuns("a".repeat(31) + "b" + "a".repeat(31) + "b", new int[][] {{0, 31, 1}, {0, 64, 32}, {32, 63, 1}});
        sameRuns("a".repeat(62) + "bb", new int[][] {{0, 62, 1}, {62, 64, 1}});
        sameRuns(FULL, new int[][] {{0, 64, 26}});
    }

    private static void runsOver() {
        LyndonText x = text(MIXED);
        int[] due = {2, 2, 1, 2, 2, 1, 1, 0};
        for (int place = 0; place < due.length; place++) {
            Check.same("runsOver(" + place + ")", x.runsOver(place), due[place]);
        }
        Check.same("runsOver(63) of 64", text("z".repeat(64)).runsOver(63), 1);
        noPlace("runsOver", MIXED, 8, LyndonText::runsOver);
    }

    private static void exponentsOfRuns() {
        Check.same("exponentsOfRuns()", text(MIXED).exponentsOfRuns(), 0.0 + 2.0 + 7.0 / 3 + 2.0);
        Check.same("exponentsOfRuns() of one letter", text("a").exponentsOfRuns(), 0.0);
        Check.same("exponentsOfRuns() of 64 that are the same", text("z".repeat(64)).exponentsOfRuns(), 64.0);
        Check.same("exponentsOfRuns() of 64", text(FULL).exponentsOfRuns(), 64.0 / 26);
    }

    private static void squares() {
        Check.same("squares()", text(MIXED).squares(), 4);
        Check.same("squares() of one letter", text("a").squares(), 0);
        Check.same("squares() of aaaa", text("aaaa").squares(), 3);
        Check.same("squares() of abababab", text("abababab").squares(), 5);
        Check.same("squares() of the same at two places", text("aabaa").squares(), 2);
        Check.same("squares() of 64 that are the same", text("z".repeat(64)).squares(), 63);
        Check.same("squares() of 64", text(FULL).squares(), 13);
    }

    private static void suffixes() {
        // a, aabaa, abaa, aa, baa
        LyndonText x = text("aabaa");
        int[] places = {4, 3, 0, 1, 2};
        for (int rank = 0; rank < places.length; rank++) {
            Check.same("suffixAt(" + rank + ")", x.suffixAt(rank), places[rank]);
            Check.same("rankOf(" + places[rank] + ")", x.rankOf(places[rank]), rank);
        }
        LyndonText same = text("z".repeat(64));
        Check.same("suffixAt(0) of 64", same.suffixAt(0), 63);
        Check.same("suffixAt(63) of 64", same.suffixAt(63), 0);
        Check.same("rankOf(0) of 64", same.rankOf(0), 63);
        Check.same("rankOf(63) of 64", same.rankOf(63), 0);
        Check.same("rankOf(0) of one letter", text("a").rankOf(0), 0);
        noPlace("suffixAt", "aabaa", 5, LyndonText::suffixAt);
        noPlace("rankOf", "aabaa", 5, LyndonText::rankOf);
    }

    private static void necklaces() {
        LyndonText x = text("ab");
        Check.same("necklaces(2, 4)", x.necklaces(2, 4), 6L);
        Check.same("necklaces(3, 9)", x.necklaces(3, 9), 2195L);
        Check.same("necklaces(1, 1)", x.necklaces(1, 1), 1L);
        Check.same("necklaces(1, 12)", x.necklaces(1, 12), 1L);
        Check.same("necklaces(10, 1)", x.necklaces(10, 1), 10L);
        Check.same("necklaces(4, 8)", x.necklaces(4, 8), 8230L);
        Check.same("necklaces(2, 12)", x.necklaces(2, 12), 352L);
        Check.same("necklaces(10, 12)", x.necklaces(10, 12), 83333418520L);
        letters("necklaces", x, "ab");
        wrongNumbers(x, "necklaces", x::necklaces);
    }

    private static void lyndonWords() {
        LyndonText x = text("ab");
        Check.same("lyndonWords(2, 4)", x.lyndonWords(2, 4), 3L);
        Check.same("lyndonWords(3, 9)", x.lyndonWords(3, 9), 2184L);
        Check.same("lyndonWords(1, 1)", x.lyndonWords(1, 1), 1L);
        Check.same("lyndonWords(1, 2)", x.lyndonWords(1, 2), 0L);
        Check.same("lyndonWords(1, 12)", x.lyndonWords(1, 12), 0L);
        Check.same("lyndonWords(10, 1)", x.lyndonWords(10, 1), 10L);
        Check.same("lyndonWords(2, 6)", x.lyndonWords(2, 6), 9L);
        Check.same("lyndonWords(2, 12)", x.lyndonWords(2, 12), 335L);
        Check.same("lyndonWords(10, 12)", x.lyndonWords(10, 12), 83333249175L);
        letters("lyndonWords", x, "ab");
        wrongNumbers(x, "lyndonWords", x::lyndonWords);
    }

    private interface PairCall {
        long of(int letters, int length);
    }

    private static void wrongNumbers(LyndonText x, String what, PairCall call) {
        int[][] wrong = {{0, 1}, {11, 1}, {1, 0}, {1, 13}, {-1, 1}, {1, -1}, {Integer.MAX_VALUE, 1},
            {1, Integer.MAX_VALUE}, {Integer.MIN_VALUE, 1}, {1, Integer.MIN_VALUE}};
        for (int[] pair : wrong) {
            Check.refused(what + "(" + pair[0] + ", " + pair[1] + ")", x, ARGUMENT, () -> call.of(pair[0], pair[1]));
        }
    }

    private static void necklaceNumber() {
        String[] due = {"aaaa", "aaab", "aabb", "abab", "abbb", "bbbb"};
        for (int number = 0; number < due.length; number++) {
            LyndonText x = text("z" + due[number] + due[number].substring(0, 3) + "z");
            for (int from = 1; from <= 4; from++) {
                Check.same("necklaceNumber of " + due[number] + " from " + from,
                        x.necklaceNumber(from, from + 4, 2), number);
            }
        }
        LyndonText x = text("ddddddddd");
        Check.same("necklaceNumber(0, 8, 4)", x.necklaceNumber(0, 8, 4), 8229);
        Check.same("necklaceNumber(8, 9, 4)", x.necklaceNumber(8, 9, 4), 3);
        Check.same("necklaceNumber of one kind", text("aaaaaaaa").necklaceNumber(0, 8, 1), 0);
        Check.same("necklaceNumber of ccc", text("ccc").necklaceNumber(0, 3, 3), 10);
        Check.refused("necklaceNumber of 9 letters", x, STATE, () -> x.necklaceNumber(0, 9, 4));
        Check.refused("necklaceNumber of d among 3", x, STATE, () -> x.necklaceNumber(0, 8, 3));
        LyndonText last = text("aaaaaaab");
        Check.refused("necklaceNumber of a last b among 1", last, STATE, () -> last.necklaceNumber(0, 8, 1));
        Check.same("necklaceNumber without the last b", last.necklaceNumber(0, 7, 1), 0);
        for (int letters : new int[] {0, 5, -1, Integer.MIN_VALUE, Integer.MAX_VALUE}) {
            Check.refused("necklaceNumber(0, 9, " + letters + ")", x, ARGUMENT,
                    () -> x.necklaceNumber(0, 9, letters));
            Check.refused("necklaceNumber(0, 10, " + letters + ")", x, INDEX,
                    () -> x.necklaceNumber(0, 10, letters));
        }
    }

    private static void partsThatAreNone() {
        noPart("appendPart", LyndonText::appendPart);
        noPart("compare", (x, from, to) -> x.compare(from, to, 0, 1));
        noPart("compare's other", (x, from, to) -> x.compare(0, 1, from, to));
        noPart("isLyndon", LyndonText::isLyndon);
        noPart("standardFactor", LyndonText::standardFactor);
        noPart("leastRotation", LyndonText::leastRotation);
        noPart("greatestRotation", LyndonText::greatestRotation);
        noPart("rotations", LyndonText::rotations);
        noPart("isNecklace", LyndonText::isNecklace);
        noPart("period", LyndonText::period);
        noPart("periodByTrying", LyndonText::periodByTrying);
        noPart("isPeriod", (x, from, to) -> x.isPeriod(from, to, 1));
        noPart("periods", LyndonText::periods);
        noPart("border", LyndonText::border);
        noPart("rootLength", LyndonText::rootLength);
        noPart("exponent", LyndonText::exponent);
        noPart("necklaceNumber", (x, from, to) -> x.necklaceNumber(from, to, 4));
    }

    private static void noPart(String what, PartCall call) {
        for (String letters : new String[] {"", "a", "abc", FULL}) {
            int length = letters.length();
            int[][] wrong = {{0, 0}, {length, length}, {length, length + 1}, {0, length + 1}, {-1, 1}, {-1, length},
                {2, 1}, {0, Integer.MAX_VALUE}, {Integer.MIN_VALUE, 1}, {Integer.MIN_VALUE, Integer.MAX_VALUE},
                {Integer.MAX_VALUE, Integer.MIN_VALUE}, {0, -1}};
            for (int[] part : wrong) {
                LyndonText x = text(letters);
                Check.refused(what + "(" + part[0] + ", " + part[1] + ") of " + letters, x, INDEX,
                        () -> call.on(x, part[0], part[1]));
            }
        }
    }
}
