import java.nio.file.Files;
import java.nio.file.Path;
import java.util.ArrayList;
import java.util.LinkedHashMap;
import java.util.List;
import java.util.Map;

/** The sentences of ../shared/DOC.md, by promises (0: what stands ahead of them), and which of them a test has quoted. */
final class Document {
    static final int TERMS = 0;

    private static final Path FILE = Path.of("../shared/DOC.md");
    private static final String CALLS_AT_MOST = "An object is used for at most 512 calls";

    /** The sentences, each with whether it was quoted. */
    private final Map<Integer, Map<String, Boolean>> sections = new LinkedHashMap<>();

    Document() throws Exception {
        int section = TERMS;
        boolean isInTerms = false;
        for (String line : Files.readAllLines(FILE)) {
            if (line.startsWith("## ")) {
                isInTerms = line.equals("## Terms");
                section = line.startsWith("## Promise ") ? numberIn(line) : TERMS;
            } else if (section != TERMS || isInTerms || line.startsWith(CALLS_AT_MOST)) {
                keepSentences(section, line);
            }
        }
    }

    private static int numberIn(String heading) {
        return Integer.parseInt(heading.substring("## Promise ".length(), heading.indexOf(':')));
    }

    private void keepSentences(int section, String line) {
        for (String sentence : line.split("(?<=\\.) ")) {
            // Neither of these tells anything that a call could show.
            boolean tellsNothing = sentence.isBlank() || sentence.equals("Baking.") || sentence.startsWith("Ahead of the calls");
            if (!tellsNothing) {
                sections.computeIfAbsent(section, ignored -> new LinkedHashMap<>()).put(sentence, false);
            }
        }
    }

    /** Tells whether the words stand in a sentence there, and keeps that each such sentence was quoted. */
    boolean quote(int section, String words) {
        boolean found = false;
        for (Map.Entry<String, Boolean> sentence : sections.getOrDefault(section, Map.of()).entrySet()) {
            if (sentence.getKey().contains(words)) {
                sentence.setValue(true);
                found = true;
            }
        }
        return found;
    }

    List<String> notQuoted() {
        List<String> left = new ArrayList<>();
        sections.forEach((section, sentences) -> sentences.forEach((sentence, isQuoted) -> {
            if (!isQuoted) {
                left.add((section == TERMS ? "Terms: " : "Promise " + section + ": ") + sentence);
            }
        }));
        return left;
    }
}
