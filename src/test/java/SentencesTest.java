import java.io.IOException;
import java.nio.file.Files;
import java.nio.file.Path;
import java.util.ArrayList;
import java.util.LinkedHashMap;
import java.util.List;
import java.util.Map;
import java.util.TreeSet;
import java.util.regex.Matcher;
import java.util.regex.Pattern;

/**
 * Each sentence of the document has a test of its own. The first comment of such a test begins with the part of the
 * document or the number of the promise, and quotes the sentence or the piece of it that is tested. A quote must
 * stand in that part word for word, and no words of the document may be left that neither a quote nor PLAIN holds.
 */
public final class SentencesTest {
    private static final Pattern TEST = Pattern.compile(
        "/\\*\\*((?:(?!\\*/).)*)\\*/\\s*private static void (\\w+)\\(\\) (?:throws \\w+ )?\\{", Pattern.DOTALL);
    private static final Pattern PART = Pattern.compile("(Head|Description|[A-Z][a-z]+|Promise \\d+): \".*");
    private static final Pattern QUOTE = Pattern.compile("\"([^\"]+)\"");
    private static final String[] DESCRIPTION = {"Election", "Ballots", "Rounds", "Surplus", "Ties", "Text"};

    /** Words that name no case that could be tested alone: headings, parameters and answers without a bound. */
    private static final String[] PLAIN = {
        "A tabulator for elections with ranked ballots and several seats: quotas by four rules, surplus transfers by"
            + " two rules, exclusions, ties that are broken by other rounds or by lot, reasons for what happened,"
            + " accounts of all votes, comparisons of candidates in pairs, recounts against a declared result,"
            + " additional votes that a candidate needs, and undo.",
        "what later calls answer is free.", "The class is not thread-safe.",
        "The constructor and the methods follow, a promise each: the signature, then what it does.",
        "Each round consists of these steps:", "The quota of the round is found:",
        "It contains commands in this form, where braces mean zero or more repetitions:",
        "The election.", "Results.", "Pairs.", "Recounts.", "Undo, snapshots and counts.",
        "- `packed`: the characters", "- `value`: the new value", "- `candidate`: the candidate", "- `pile`: the pile",
        "- `round`: the round", "- `candidate`: the former candidate", "- `other`: the latter candidate",
        "Returns the property.", "Returns a property of a pile.", "Returns the character code, or the length.",
        "Returns the number.", "Returns the votes of a candidate in a round.", "Returns a number about a round.",
        "Returns a number about a candidate in the result.", "Returns an elected candidate.", "Returns the candidate.",
        "Returns where a pile is in a round, before step 4 or 5.",
        "Returns the share of a candidate: its votes in a round divided by the total.",
        "Returns the number of papers.", "Returns the points.", "Compares the present result with the declared one.",
        "Returns a count.", "Returns the count.",
    };

    private static final Map<String, String> parts = new LinkedHashMap<>();
    private static final Map<String, boolean[]> covered = new LinkedHashMap<>();

    public static void main(String[] args) throws IOException {
        readDocument(Files.readString(Path.of("../shared/DOC.md")));
        Check.is("parts of the document", parts.size(), 1 + 7 + 26);
        readTests();
        for (String plain : PLAIN) {
            int found = 0;
            for (String part : parts.keySet()) {
                found += cover(part, plain);
            }
            Check.is("in the document: " + plain, found > 0 ? 1 : 0, 1);
        }
        for (String part : parts.keySet()) {
            for (String left : leftWords(part)) {
                Check.tell(part + " has words without a test: " + left);
            }
        }
        Check.end();
    }

    private static String oneLine(String text) {
        return text.replace('"', '\'').replaceAll("\\s+", " ").trim();
    }

    private static void put(String part, String text) {
        parts.put(part, oneLine(text));
        covered.put(part, new boolean[parts.get(part).length()]);
    }

    private static void readDocument(String document) {
        for (String section : document.split("\n## ")) {
            String[] titleAndText = section.split("\n", 2);
            String title = titleAndText[0];
            String text = titleAndText[1];
            if (title.equals("What it is")) {
                put("Head", text);
            } else if (title.equals("Description")) {
                readDescription(text);
            } else if (title.startsWith("Promise ")) {
                // The signature is looked at by FaceTest.
                put(title.substring(0, title.indexOf(':')), text.replaceFirst("`[^`]*`", ""));
            }
        }
    }

    private static void readDescription(String text) {
        String part = "Description";
        String rest = text;
        for (String next : DESCRIPTION) {
            int at = rest.indexOf("\n" + next + ". ");
            put(part, rest.substring(0, at));
            rest = rest.substring(at + next.length() + 3);
            part = next;
        }
        put(part, rest);
    }

    private static void readTests() throws IOException {
        List<Path> files = new ArrayList<>();
        try (var list = Files.list(Path.of("src/test/java"))) {
            list.filter(file -> file.toString().endsWith("Test.java")).forEach(files::add);
        }
        int tests = 0;
        for (Path file : files) {
            String text = Files.readString(file);
            Matcher matcher = TEST.matcher(text);
            while (matcher.find()) {
                String comment = matcher.group(1).replaceAll("\\s*\\n\\s*\\*?\\s*", " ").trim();
                if (PART.matcher(comment).matches()) {
                    tests++;
                    readComment(file.getFileName() + " " + matcher.group(2), comment);
                    String call = "        " + matcher.group(2) + "();";
                    Check.is("there is the call" + call, text.contains(call) ? 1 : 0, 1);
                }
            }
        }
        System.out.println(tests + " tests that quote the document");
    }

    private static void readComment(String test, String comment) {
        String part = comment.substring(0, comment.indexOf(':'));
        Check.is(test + " names a part of the document", parts.containsKey(part) ? 1 : 0, 1);
        Matcher quote = QUOTE.matcher(comment);
        while (parts.containsKey(part) && quote.find()) {
            Check.is(test + " quotes " + quote.group(1), cover(part, oneLine(quote.group(1))) > 0 ? 1 : 0, 1);
        }
    }

    /** Marks a text wherever it stands in a part, and counts these places. */
    private static int cover(String part, String text) {
        int found = 0;
        for (int at = parts.get(part).indexOf(text); at >= 0; at = parts.get(part).indexOf(text, at + 1)) {
            found++;
            for (int k = 0; k < text.length(); k++) {
                covered.get(part)[at + k] = true;
            }
        }
        return found;
    }

    /** Runs of signs that are not covered and hold a word. */
    private static TreeSet<String> leftWords(String part) {
        TreeSet<String> left = new TreeSet<>();
        StringBuilder run = new StringBuilder();
        for (int k = 0; k <= parts.get(part).length(); k++) {
            if (k < parts.get(part).length() && !covered.get(part)[k]) {
                run.append(parts.get(part).charAt(k));
            } else {
                if (run.toString().matches(".*[A-Za-z].*")) {
                    left.add(run.toString());
                }
                run.setLength(0);
            }
        }
        return left;
    }
}
