import java.util.ArrayList;
import java.util.LinkedHashMap;
import java.util.List;
import java.util.Map;
import java.util.regex.Matcher;
import java.util.regex.Pattern;

/** The document's sentences, and which of them have been taken up by a test. Promise 0 is what stands ahead of them. */
final class Sentences {
    private final Map<Integer, String> sections = new LinkedHashMap<>();
    private final Map<Integer, List<String>> taken = new LinkedHashMap<>();

    Sentences(String document) {
        Matcher heading = Pattern.compile("(?m)^## (Promise (\\d+)|Not promised).*$").matcher(document);
        int promise = 0;
        int begin = 0;
        while (heading.find()) {
            put(promise, document.substring(begin, heading.start()));
            promise = heading.group(2) == null ? -1 : Integer.parseInt(heading.group(2));
            begin = heading.end();
        }
        put(promise, document.substring(begin));
    }

    private void put(int promise, String section) {
        sections.put(promise, section);
        taken.put(promise, new ArrayList<>());
    }

    int promises() {
        return sections.size() - 2;
    }

    boolean take(int promise, String words) {
        if (!sections.getOrDefault(promise, "").contains(words)) {
            return false;
        }
        taken.get(promise).add(words);
        return true;
    }

    /** The sentences that no test has taken up. */
    List<String> left() {
        List<String> left = new ArrayList<>();
        for (Map.Entry<Integer, String> section : sections.entrySet()) {
            for (String sentence : sentencesOf(section.getKey(), section.getValue())) {
                if (taken.get(section.getKey()).stream().noneMatch(sentence::contains)) {
                    left.add("promise " + section.getKey() + ": " + sentence);
                }
            }
        }
        return left;
    }

    /** Of a promise each row, of what stands ahead each sentence of "Words" and of "Exceptions". */
    private static List<String> sentencesOf(int promise, String section) {
        List<String> found = new ArrayList<>();
        if (promise == 0) {
            String words = section.substring(section.indexOf("### Words"), section.indexOf("Ahead of the calls"));
            for (String sentence : words.replaceAll("(?m)^###.*$", "").split("\\.\\s+")) {
                addUnlessBlank(found, sentence);
            }
        } else if (promise > 0) {
            for (String row : section.split("\n")) {
                addUnlessBlank(found, row);
            }
        }
        return found;
    }

    private static void addUnlessBlank(List<String> found, String sentence) {
        if (!sentence.isBlank()) {
            found.add(sentence.trim());
        }
    }
}
