import java.util.ArrayList;
import java.util.List;

/**
 * Every question about every short text of two and of three letters, and about long texts that repeat themselves,
 * against PlainText; every number of letters and length that a load or a count takes.
 */
final class EveryWordTest {
    private EveryWordTest() {
    }

    public static void main(String[] args) {
        for (int length = 1; length <= 9; length++) {
            askAll(PlainText.allWords(2, length));
        }
        for (int length = 1; length <= 6; length++) {
            askAll(PlainText.allWords(3, length));
        }
        askAll(longTexts());
        everyDeBruijnWord();
        everyNecklace();
        everyCount();
        Check.finish("EveryWordTest");
    }

    private static List<String> longTexts() {
        List<String> texts = new ArrayList<>();
        String before = "b";
        String fibonacci = "a";
        while (fibonacci.length() < 64) {
            String next = fibonacci + before;
            before = fibonacci;
            fibonacci = next;
        }
        StringBuilder thueMorse = new StringBuilder();
        for (int i = 0; i < 64; i++) {
            thueMorse.append((char) ('a' + Integer.bitCount(i) % 2));
        }
        texts.add(fibonacci.substring(0, 64));
        texts.add(new StringBuilder(fibonacci.substring(0, 64)).reverse().toString());
        texts.add(thueMorse.toString());
        texts.add("z".repeat(64));
        texts.add("az".repeat(32));
        texts.add("a".repeat(32) + "b".repeat(32));
        texts.add("aabaabbaabaa".repeat(6).substring(0, 64));
        // A text of 60 letters with very many runs.
        texts.add("110101101001011010110100101101011001011010110100101101011010".replace('0', 'a').replace('1', 'b'));
        return texts;
    }

    private static void askAll(List<String> texts) {
        for (String letters : texts) {
            PlainText plain = new PlainText();
            for (char letter : letters.toCharArray()) {
                plain.append(letter - 'a');
            }
            askOfWhole(letters, Check.textOf(letters), plain);
            askOfParts(letters, plain);
        }
    }

    private static void askOfWhole(String letters, LyndonText x, PlainText plain) {
        String on = " of " + letters;
        Check.same("factors()" + on, x.factors(), plain.factors());
        for (int factor = 0; factor < plain.factors(); factor++) {
            Check.same("factorStart" + on, x.factorStart(factor), plain.factorStart(factor));
            Check.same("factorLength" + on, x.factorLength(factor), plain.factorLength(factor));
        }
        askOfRuns(on, x, plain, PlainText.runsOf(letters));
        // On an object of its own: with the rest it would come to more than 512 calls.
        askOfPlaces(on, Check.textOf(letters), plain);
    }

    private static void askOfRuns(String on, LyndonText x, PlainText plain, List<int[]> runs) {
        Check.same("runs()" + on, x.runs(), runs.size());
        for (int run = 0; run < runs.size(); run++) {
            Check.same("runStart" + on, x.runStart(run), runs.get(run)[0]);
            Check.same("runEnd" + on, x.runEnd(run), runs.get(run)[1]);
            Check.same("runPeriod" + on, x.runPeriod(run), runs.get(run)[2]);
        }
        Check.same("exponentsOfRuns()" + on, x.exponentsOfRuns(), plain.exponentsOfRuns());
        Check.same("squares()" + on, x.squares(), plain.squares());
    }

    private static void askOfPlaces(String on, LyndonText x, PlainText plain) {
        int length = plain.letters().length();
        for (int place = 0; place < length; place++) {
            Check.same("factorOver" + on, x.factorOver(place), plain.factorOver(place));
            Check.same("longestLyndon" + on, x.longestLyndon(place, false), plain.longestLyndon(place, false));
            Check.same("longestLyndon reversed" + on, x.longestLyndon(place, true), plain.longestLyndon(place, true));
            Check.same("suffixAt" + on, x.suffixAt(place), plain.suffixAt(place));
            Check.same("rankOf" + on, x.rankOf(place), plain.rankOf(place));
        }
    }

    /** Of a short text the parts are words of their own here, so the whole is enough. */
    private static void askOfParts(String letters, PlainText plain) {
        int length = letters.length();
        for (int from = 0; from < length; from += 7) {
            for (int to = length; to > from; to -= 5) {
                askOfPart(letters, from, to, plain);
            }
        }
    }

    private static void askOfPart(String letters, int from, int to, PlainText plain) {
        LyndonText x = Check.textOf(letters);
        String on = "(" + from + ", " + to + ") of " + letters;
        boolean isLyndon = plain.isLyndon(from, to);
        Check.same("isLyndon" + on, x.isLyndon(from, to), isLyndon);
        if (isLyndon && to - from > 1) {
            Check.same("standardFactor" + on, x.standardFactor(from, to), plain.standardFactor(from, to));
        }
        Check.same("leastRotation" + on, x.leastRotation(from, to), plain.leastRotation(from, to));
        Check.same("greatestRotation" + on, x.greatestRotation(from, to), plain.greatestRotation(from, to));
        Check.same("rotations" + on, x.rotations(from, to), plain.rotations(from, to));
        Check.same("isNecklace" + on, x.isNecklace(from, to), plain.isNecklace(from, to));
        Check.same("period" + on, x.period(from, to), plain.period(from, to));
        Check.same("periodByTrying" + on, x.periodByTrying(from, to), plain.periodByTrying(from, to));
        Check.same("periods" + on, x.periods(from, to), plain.periods(from, to));
        Check.same("border" + on, x.border(from, to), plain.border(from, to));
        Check.same("rootLength" + on, x.rootLength(from, to), plain.rootLength(from, to));
        Check.same("exponent" + on, x.exponent(from, to), plain.exponent(from, to));
        for (int period = 1; period <= to - from; period++) {
            Check.same("isPeriod" + on, x.isPeriod(from, to, period), plain.isPeriod(from, to, period));
        }
    }

    private static void everyDeBruijnWord() {
        for (int letters = 1; letters <= 8; letters++) {
            for (int length = 1; length <= 6; length++) {
                LyndonText x = Check.textOf("zyx");
                PlainText plain = new PlainText();
                String on = "loadDeBruijn(" + letters + ", " + length + ")";
                if (Math.pow(letters, length) <= 64) {
                    Check.same(on, x.loadDeBruijn(letters, length), plain.loadDeBruijn(letters, length));
                    Check.same(on + ": the length", x.length(), (int) Math.round(Math.pow(letters, length)));
                    Check.same(on + ": the text", Check.lettersOf(x), plain.letters());
                }
            }
        }
    }

    private static void everyNecklace() {
        LyndonText x = new LyndonText();
        for (int letters = 1; letters <= 4; letters++) {
            for (int length = 1; length <= 8; length++) {
                List<String> all = PlainText.allNecklaces(letters, length);
                String on = "(" + letters + ", " + length + ")";
                Check.same("necklaces" + on, x.necklaces(letters, length), (long) all.size());
                // Of the longest ones every seventh, and the first and the last.
                int step = all.size() > 1000 ? 7 : 1;
                for (int number = 0; number < all.size(); number += step) {
                    oneNecklace(letters, length, number, all.get(number));
                }
                oneNecklace(letters, length, all.size() - 1, all.get(all.size() - 1));
                Check.refused("loadNecklace" + on, x, IllegalArgumentException.class,
                        () -> new LyndonText().loadNecklace(on.charAt(1) - '0', on.charAt(4) - '0', all.size()));
            }
        }
    }

    private static void oneNecklace(int letters, int length, int number, String due) {
        LyndonText x = Check.textOf("zyx");
        String on = "loadNecklace(" + letters + ", " + length + ", " + number + ")";
        Check.same(on, x.loadNecklace(letters, length, number), PlainText.root(due).length());
        Check.same(on + ": the text", Check.lettersOf(x), due);
        x.rotate(number % 64);
        Check.same(on + ": its number", x.necklaceNumber(0, length, letters), number);
    }

    private static void everyCount() {
        LyndonText x = new LyndonText();
        PlainText plain = new PlainText();
        for (int letters = 1; letters <= 10; letters++) {
            for (int length = 1; length <= 12; length++) {
                String on = "(" + letters + ", " + length + ")";
                Check.same("necklaces" + on, x.necklaces(letters, length), plain.necklaces(letters, length));
                Check.same("lyndonWords" + on, x.lyndonWords(letters, length), plain.lyndonWords(letters, length));
            }
        }
    }
}
