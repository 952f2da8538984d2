import java.io.IOException;
import java.nio.file.Files;
import java.nio.file.Path;
import java.util.ArrayList;
import java.util.LinkedHashMap;
import java.util.List;
import java.util.Map;

/** The sentences of the document under some of its headings, each of which is to have a test of its own. */
final class Sentences {
    private static final String BEHIND_A_STOP = "(?<=[.]|[.][)]) (?=[A-Z(])";

    /** A heading, and how many tests each sentence below it has. */
    private final Map<String, Map<String, Integer>> tests = new LinkedHashMap<>();

    Sentences(String[] args, String... headings) throws IOException {
        Path root = Path.of(args.length > 0 ? args[0] : ".");
        Map<String, Integer> below = new LinkedHashMap<>();
        boolean code = false;
        for (String line : Files.readAllLines(root.resolve("../shared/DOC.md"))) {
            code ^= line.startsWith("```");
            if (line.startsWith("#")) {
                below = new LinkedHashMap<>();
                take(line.replaceAll("^#+ ", ""), below, headings);
            } else if (!code && !line.startsWith("```") && !line.isBlank()) {
                for (String sentence : split(line)) {
                    below.put(sentence, 0);
                }
            }
        }
        for (String heading : headings) {
            Check.due("the heading " + heading, tests.containsKey(heading) ? 1 : 0, 1);
        }
    }

    private void take(String line, Map<String, Integer> below, String[] headings) {
        for (String heading : headings) {
            if (line.equals(heading) || line.startsWith(heading + ":")) {
                tests.put(heading, below);
            }
        }
    }

    /** The signature in front of a promise is no part of its first sentence. */
    private static List<String> split(String line) {
        List<String> sentences = new ArrayList<>();
        for (String sentence : line.replaceAll("^`[^`]*`: ", "").split(BEHIND_A_STOP)) {
            sentences.add(sentence);
        }
        return sentences;
    }

    /** Runs the test of a sentence, told by the words that it begins with; a test that breaks off has failed. */
    void test(String heading, String words, Runnable test) {
        String sentence = find(heading, words);
        tests.get(heading).merge(sentence, 1, Integer::sum);
        Check.about(heading + ", \"" + words + "\": ");
        try {
            test.run();
        } catch (RuntimeException e) {
            Check.dueText("the test", "broken off by " + e, "whole");
        }
        Check.about("");
    }

    private String find(String heading, String words) {
        String found = null;
        for (String sentence : tests.get(heading).keySet()) {
            if (sentence.startsWith(words)) {
                Check.due("sentences that begin with " + words, found == null ? 1 : 2, 1);
                found = sentence;
            }
        }
        if (found == null) {
            throw new IllegalStateException("no sentence under " + heading + " begins with " + words);
        }
        return found;
    }

    /** A sentence that names no boundary has no test of its own. */
    void free(String heading, String words) {
        tests.get(heading).merge(find(heading, words), 1, Integer::sum);
    }

    /** Each sentence must have had its test. */
    void end(String test) {
        for (Map.Entry<String, Map<String, Integer>> below : tests.entrySet()) {
            for (Map.Entry<String, Integer> sentence : below.getValue().entrySet()) {
                Check.due("tests of " + below.getKey() + ", \"" + sentence.getKey() + "\"",
                    sentence.getValue() > 0 ? 1 : 0, 1);
            }
        }
        Check.end(test);
    }
}
