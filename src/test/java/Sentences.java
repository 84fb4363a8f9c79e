import java.util.LinkedHashMap;
import java.util.Map;
import java.util.regex.Matcher;
import java.util.regex.Pattern;

/**
 * The document's sentences: each is named by the test that holds it, with answers that are due by it. A sentence that
 * does not stand in the document, that no answer was asked for, or that no test names, is wrong.
 */
final class Sentences {
    private final Checks checks;
    private final Map<String, String> left = new LinkedHashMap<>();
    private String part = "";
    private String sentence = "";
    private int asked = 1;

    Sentences(Checks checks, String document) {
        this.checks = checks;
        String text = document.replaceAll("```(text)?", " ").replaceAll("\\s+", " ");
        take("use", text, "(An object is used .*?) ## The public face");
        take("refusals", text, "## Terms (.*?)==== 1");
        take("1", text, "==== 1 (.*?)==== 2");
        take("2", text, "==== 2 (.*?)==== 3");
        take("3", text, "==== 3 (.*?)==== 4");
        take("4", text, "==== 4 (.*?)==== 5");
        take("5", text, "==== 5 (.*?)Ahead of the calls");
        take("6", text, "---- 6 (.*?) ## Promise 1:");
        for (int n = 1; n <= 40; n++) {
            take("promise " + n, text, "## Promise " + n + ": [^`]*`[^`]*`: (.*?) ## ");
        }
    }

    private void take(String name, String text, String pattern) {
        Matcher matcher = Pattern.compile(pattern).matcher(text);
        checks.due("the document has " + name, matcher.find() ? 1 : 0, 1);
        left.put(name, matcher.group(1));
    }

    /** The sentences named from here on stand in this part of the document. */
    void in(String name) {
        part = name;
    }

    void says(String wanted) {
        endSentence();
        sentence = wanted;
        asked = 0;
        String rest = left.get(part);
        int at = rest.indexOf(wanted);
        checks.due(part + " says '" + wanted + "'", at >= 0 ? 1 : 0, 1);
        if (at >= 0) {
            left.put(part, rest.substring(0, at) + "|" + rest.substring(at + wanted.length()));
        }
    }

    void due(String call, long got, long want) {
        asked++;
        checks.due(part + ", '" + sentence + "': " + call, got, want);
    }

    private void endSentence() {
        checks.due(part + ", '" + sentence + "' has an answer of its own", asked > 0 ? 1 : 0, 1);
    }

    /** No sentence is left without a test. */
    void end() {
        endSentence();
        for (Map.Entry<String, String> one : left.entrySet()) {
            String rest = one.getValue().replaceAll("[|.,:;\\s]+", " ").strip();
            checks.due(one.getKey() + " has no test for '" + rest + "'", rest.length(), 0);
        }
    }
}
