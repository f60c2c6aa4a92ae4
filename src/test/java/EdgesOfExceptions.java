import java.util.Arrays;

/** The boundary cases that "What it is", "Terms" and "Exceptions" name for the calls of all promises. */
final class EdgesOfExceptions {
    private static final int LEAST = Integer.MIN_VALUE;
    private static final int MOST = Integer.MAX_VALUE;

    private EdgesOfExceptions() {
    }

    static void test() {
        noSuchIndex();
        argumentOutOfRange();
        stateAsTheMethodSays();
        firstLineOfTwo();
        firstLineOfThree();
        nothingChanges();
        questionsChangeNothing();
        last512thCall();
    }

    private static void noSuchIndex() {
        Edges.sentence(0, "IndexOutOfBoundsException: there is no such place, part, factor, run or rank");
        for (String method : new String[] {"remove", "letterAt", "factorStart", "factorLength", "factorOver",
            "runStart", "runEnd", "runPeriod", "runsOver", "suffixAt", "rankOf"}) {
            for (String letters : new String[] {"", "c", "cb", Edges.FULL}) {
                Edges.refusesOutside(letters, 0, letters.length() - 1, Edges.INDEX, method, Edges.HERE);
            }
            Edges.refuses("", Edges.INDEX, method, 0);
        }
    }

    private static void argumentOutOfRange() {
        Edges.sentence(0, "IllegalArgumentException: another argument is out of range");
        Edges.refusesOutside("c", 0, 63, Edges.ARGUMENT, "rotate", Edges.HERE);
        Edges.refusesOutside("c", 1, 1, Edges.ARGUMENT, "isPeriod", 0, 1, Edges.HERE);
        Edges.refusesOutside("a", 1, 4, Edges.ARGUMENT, "necklaceNumber", 0, 1, Edges.HERE);
        for (String method : new String[] {"necklaces", "lyndonWords"}) {
            Edges.refuses("c", Edges.ARGUMENT, method, 0, 0);
            Edges.refuses("c", Edges.ARGUMENT, method, 11, 13);
        }
        Edges.refuses("c", Edges.ARGUMENT, "loadDeBruijn", 0, 0);
        Edges.refuses("c", Edges.ARGUMENT, "loadNecklace", 0, 0, -1);
        Edges.refuses("c", Edges.ARGUMENT, "loadNecklace", LEAST, MOST, MOST);
    }

    private static void stateAsTheMethodSays() {
        Edges.sentence(0, "IllegalStateException: as the method says");
        Edges.refuses(Edges.FULL, Edges.STATE, "append", 0);
        Edges.refuses(Edges.FULL, Edges.STATE, "insert", 0, 0);
        Edges.refuses(Edges.FULL, Edges.STATE, "appendPart", 0, 1);
        Edges.refuses("", Edges.STATE, "rotate", 0);
        Edges.refuses("a", Edges.STATE, "standardFactor", 0, 1);
        Edges.refuses("b", Edges.STATE, "necklaceNumber", 0, 1, 1);
        // No state refuses these: a full text may be changed, an empty one turned around and emptied.
        Edges.edits(Edges.FULL, "z" + Edges.FULL.substring(1), 0, "set", 0, 25);
        Edges.edits("", "", 0, "reverse");
        Edges.edits("", "", 0, "clear");
    }

    private static void firstLineOfTwo() {
        Edges.sentence(0, "The first line of a method's throws clause that applies decides");
        Edges.refuses(Edges.FULL, Edges.ARGUMENT, "append", -1);
        Edges.refuses("", Edges.INDEX, "set", 0, 26);
        Edges.sentence(2, "throws IllegalArgumentException, IllegalStateException");
        for (int letter : new int[] {-1, 26, LEAST, MOST}) {
            Edges.refuses(Edges.FULL, Edges.ARGUMENT, "append", letter);
        }
        Edges.sentence(4, "throws IndexOutOfBoundsException, IllegalArgumentException");
        Edges.refuses("", Edges.INDEX, "set", 0, 26);
        Edges.refuses("ab", Edges.INDEX, "set", 2, 26);
        Edges.refuses("ab", Edges.INDEX, "set", -1, -1);
        Edges.refuses("ab", Edges.INDEX, "set", LEAST, MOST);
        Edges.sentence(8, "throws IllegalArgumentException, IllegalStateException");
        for (int letters : new int[] {-1, 64, LEAST, MOST}) {
            Edges.refuses("", Edges.ARGUMENT, "rotate", letters);
        }
        Edges.sentence(9, "throws IndexOutOfBoundsException, IllegalStateException");
        Edges.refuses(Edges.FULL, Edges.INDEX, "appendPart", 0, 65);
        Edges.refuses(Edges.FULL, Edges.INDEX, "appendPart", -1, 64);
        Edges.refuses(Edges.FULL, Edges.INDEX, "appendPart", 64, 64);
        Edges.refuses(Edges.FULL, Edges.INDEX, "appendPart", 0, MOST);
        Edges.sentence(22, "throws IndexOutOfBoundsException, IllegalStateException");
        Edges.refuses("a", Edges.INDEX, "standardFactor", 0, 0);
        Edges.refuses("ba", Edges.INDEX, "standardFactor", 0, 3);
        Edges.refuses("ba", Edges.INDEX, "standardFactor", 2, 3);
        Edges.refuses("ba", Edges.INDEX, "standardFactor", -1, 0);
        Edges.sentence(29, "throws IndexOutOfBoundsException, IllegalArgumentException");
        Edges.refuses("ab", Edges.INDEX, "isPeriod", 0, 3, 0);
        Edges.refuses("ab", Edges.INDEX, "isPeriod", 0, 3, 4);
        Edges.refuses("ab", Edges.INDEX, "isPeriod", 1, 1, 1);
        Edges.refuses("ab", Edges.INDEX, "isPeriod", -1, 2, LEAST);
        Edges.refuses("ab", Edges.INDEX, "isPeriod", 0, MOST, MOST);
    }

    private static void firstLineOfThree() {
        Edges.sentence(3, "throws IndexOutOfBoundsException, IllegalArgumentException, IllegalStateException");
        Edges.refuses("ab", Edges.INDEX, "insert", 3, 26);
        Edges.refuses("ab", Edges.INDEX, "insert", -1, -1);
        Edges.refuses(Edges.FULL, Edges.INDEX, "insert", 65, 0);
        Edges.refuses(Edges.FULL, Edges.INDEX, "insert", -1, 0);
        Edges.refuses(Edges.FULL, Edges.INDEX, "insert", 65, 26);
        Edges.refuses(Edges.FULL, Edges.INDEX, "insert", LEAST, MOST);
        Edges.refuses(Edges.FULL, Edges.ARGUMENT, "insert", 64, 26);
        Edges.refuses(Edges.FULL, Edges.ARGUMENT, "insert", 0, -1);
        Edges.sentence(45, "throws IndexOutOfBoundsException, IllegalArgumentException, IllegalStateException");
        String nine = "eeeeeeeee";
        Edges.refuses(nine, Edges.INDEX, "necklaceNumber", 0, 10, 4);
        Edges.refuses(nine, Edges.INDEX, "necklaceNumber", 0, 10, 5);
        Edges.refuses(nine, Edges.INDEX, "necklaceNumber", 9, 9, 0);
        Edges.refuses(nine, Edges.INDEX, "necklaceNumber", -1, 8, LEAST);
        Edges.refuses(nine, Edges.ARGUMENT, "necklaceNumber", 0, 9, 5);
        Edges.refuses(nine, Edges.ARGUMENT, "necklaceNumber", 0, 9, 0);
        Edges.refuses(nine, Edges.ARGUMENT, "necklaceNumber", 0, 1, 5);
        Edges.refuses(nine, Edges.ARGUMENT, "necklaceNumber", 0, 1, MOST);
        Edges.refuses(nine, Edges.STATE, "necklaceNumber", 0, 9, 4);
        Edges.refuses(nine, Edges.STATE, "necklaceNumber", 0, 1, 4);
    }

    /** Every answer about the text is the same behind a call that threw. */
    private static void nothingChanges() {
        Edges.sentence(0, "a call that throws changes nothing");
        Object[][] refused = {{"append", 26}, {"insert", 0, 26}, {"insert", 8, 0}, {"set", 7, 0}, {"set", 0, -1},
            {"remove", 7}, {"remove", -1}, {"rotate", 64}, {"rotate", -1}, {"appendPart", 0, 8}, {"appendPart", 3, 3},
            {"loadDeBruijn", 3, 4}, {"loadDeBruijn", 9, 1}, {"loadDeBruijn", 2, 7}, {"loadDeBruijn", 2, 0},
            {"loadNecklace", 2, 4, 6}, {"loadNecklace", 5, 1, 0}, {"loadNecklace", 1, 9, 0}, {"loadNecklace", 2, 4, -1},
            {"standardFactor", 0, 2}, {"necklaceNumber", 0, 7, 2}, {"factorStart", 7}, {"runStart", 7}};
        for (Object[] call : refused) {
            LyndonText x = Check.textOf("aabaabc");
            Object[] arguments = Arrays.copyOfRange(call, 1, call.length);
            String what = call[0] + Arrays.toString(arguments) + " of aabaabc";
            Check.same(what + " throws", Edges.answer(x, (String) call[0], arguments) instanceof Class<?>, true);
            Check.same(what + ": the text then", Check.lettersOf(x), "aabaabc");
            Check.same(what + ": factors() then", Edges.answer(x, "factors"), 1);
            Check.same(what + ": runs() then", Edges.answer(x, "runs"), 3);
            Check.same(what + ": period(0, 7) then", Edges.answer(x, "period", 0, 7), 7);
            Check.same(what + ": rankOf(6) then", Edges.answer(x, "rankOf", 6), 6);
            Check.same(what + ": append(3) then", Edges.answer(x, "append", 3), 8);
            Check.same(what + ": the text of eight then", Check.lettersOf(x), "aabaabcd");
        }
        LyndonText full = Check.textOf(Edges.FULL);
        Check.same("append(0) of 64 throws", Edges.answer(full, "append", 0), Edges.STATE);
        Check.same("insert(0, 0) of 64 throws", Edges.answer(full, "insert", 0, 0), Edges.STATE);
        Check.same("appendPart(0, 64) of 64 throws", Edges.answer(full, "appendPart", 0, 64), Edges.STATE);
        Check.same("remove(63) of 64 then", Edges.answer(full, "remove", 63), 11);
        Check.same("append(25) of 63 then", Edges.answer(full, "append", 25), 64);
        Check.same("the text of 64 then", Check.lettersOf(full), Edges.FULL.substring(0, 63) + "z");
    }

    private static void questionsChangeNothing() {
        Edges.sentence(0, "no question changes anything");
        Object[][] questions = {{"length"}, {"letterAt", 1}, {"compare", 0, 2, 1, 4}, {"commonPrefix", 0, 3},
            {"isLyndon", 1, 4}, {"factors"}, {"factorStart", 0}, {"factorLength", 0}, {"factorOver", 3},
            {"longestLyndon", 2, false}, {"longestLyndon", 2, true}, {"standardFactor", 0, 7}, {"leastRotation", 1, 5},
            {"greatestRotation", 1, 5}, {"rotations", 1, 5}, {"isNecklace", 1, 5}, {"period", 0, 6},
            {"periodByTrying", 0, 6}, {"isPeriod", 0, 6, 2}, {"periods", 0, 6}, {"border", 0, 6}, {"rootLength", 0, 6},
            {"exponent", 0, 6}, {"runs"}, {"runStart", 1}, {"runEnd", 1}, {"runPeriod", 1}, {"runsOver", 1},
            {"exponentsOfRuns"}, {"squares"}, {"suffixAt", 2}, {"rankOf", 2}, {"necklaces", 3, 5},
            {"lyndonWords", 3, 5}, {"necklaceNumber", 0, 7, 3}};
        LyndonText x = Check.textOf("aabaabc");
        for (int round = 0; round < 2; round++) {
            for (Object[] call : questions) {
                Object[] arguments = Arrays.copyOfRange(call, 1, call.length);
                Object alone = Edges.answer(Check.textOf("aabaabc"), (String) call[0], arguments);
                String what = call[0] + Arrays.toString(arguments) + " among all questions";
                Check.same(what, Edges.answer(x, (String) call[0], arguments), alone);
            }
            Check.same("the text behind all questions", Check.lettersOf(x), "aabaabc");
        }
    }

    private static void last512thCall() {
        Edges.sentence(0, "An object is used for at most 512 calls after it has been made");
        LyndonText x = new LyndonText();
        for (int call = 1; call <= 64; call++) {
            x.append(call % 3);
        }
        for (int call = 65; call <= 511; call++) {
            Check.same("runs() as call " + call, Edges.answer(x, "runs"), 1);
        }
        Check.same("append(0) as call 512", Edges.answer(x, "append", 0), Edges.STATE);
        LyndonText y = new LyndonText();
        for (int call = 1; call <= 256; call++) {
            Check.same("loadNecklace as call " + (2 * call - 1), Edges.answer(y, "loadNecklace", 4, 8, 8228), 8);
            Check.same("necklaceNumber as call " + 2 * call, Edges.answer(y, "necklaceNumber", 0, 8, 4), 8228);
        }
    }
}
