import java.io.IOException;
import java.nio.file.Files;
import java.nio.file.Path;
import java.util.ArrayList;
import java.util.List;
import java.util.Map;
import java.util.TreeMap;
import java.util.TreeSet;
import java.util.regex.Matcher;
import java.util.regex.Pattern;

/**
 * Runs what src/test/sentences.txt has for each sentence of the document, and looks whether a sentence of "Terms" or
 * of a promise is without a run there.
 *
 * In that file a line "= NAME" begins a setup, a line "> 3: a sentence" (or "> Terms: a sentence", gone on with in
 * lines "> .." that follow at once) begins the runs for a sentence, and "--" begins another run, on a new object.
 * In a run "@NAME" stands for a setup, and a line "* 0..15: athlete(0) = i;" for its calls with i from 0 to 15;
 * "i+1" is one more there. A line that begins with "#" is a comment.
 */
public final class SentencesTest {
    private static final Path SENTENCES = Path.of("src/test/sentences.txt");
    private static final Path DOCUMENT = Path.of("../shared/DOC.md");
    private static final Pattern REPEATED = Pattern.compile("\\* (\\d+)\\.\\.(\\d+): (.*)");

    private final Map<String, String> setups = new TreeMap<>();
    private final Map<String, String> runs = new TreeMap<>();

    public static void main(String[] args) throws IOException {
        SentencesTest test = new SentencesTest();
        test.read(Files.readAllLines(SENTENCES));
        boolean empty = test.runAll();
        boolean missing = Files.exists(DOCUMENT) && test.tellMissing(Files.readString(DOCUMENT));
        if (empty || missing) {
            System.exit(1);
        }
        Script.end();
    }

    private void read(List<String> lines) {
        String name = "";
        boolean inHead = false;
        Map<String, String> target = setups;
        for (String line : lines) {
            if (line.startsWith("= ")) {
                name = line.substring(2).trim();
                target = setups;
            } else if (line.startsWith("> ")) {
                name = inHead ? name + " " + line.substring(2).trim() : line.substring(2).trim();
                target = runs;
            } else if (!line.isBlank() && !line.startsWith("#")) {
                target.merge(name, calls(line), String::concat);
            }
            inHead = line.startsWith("> ");
        }
    }

    private String calls(String line) {
        String calls = line;
        for (Map.Entry<String, String> setup : setups.entrySet()) {
            calls = calls.replaceAll("@" + setup.getKey() + "\\b", setup.getValue());
        }
        Matcher repeated = REPEATED.matcher(calls);
        if (!repeated.matches()) {
            return calls + "\n";
        }
        StringBuilder all = new StringBuilder();
        for (int i = Integer.parseInt(repeated.group(1)); i <= Integer.parseInt(repeated.group(2)); i++) {
            all.append(repeated.group(3).replaceAll("\\bi\\+1\\b", "" + (i + 1)).replaceAll("\\bi\\b", "" + i));
        }
        return all.append('\n').toString();
    }

    private boolean runAll() {
        boolean empty = false;
        for (Map.Entry<String, String> run : runs.entrySet()) {
            for (String calls : run.getValue().split("\n--\n|^--\n")) {
                if (!Script.run(run.getKey(), calls)) {
                    System.out.println("no calls for: " + run.getKey());
                    empty = true;
                }
            }
        }
        return empty;
    }

    private boolean tellMissing(String document) {
        TreeSet<String> missing = new TreeSet<>(sentences(document));
        System.out.println(missing.size() + " sentences of the document");
        missing.removeAll(runs.keySet());
        for (String sentence : missing) {
            System.out.println("no run for: " + sentence);
        }
        return !missing.isEmpty();
    }

    private static List<String> sentences(String document) {
        List<String> all = new ArrayList<>();
        String terms = document.substring(document.indexOf("## Terms"), document.indexOf("<p>Examples"));
        for (String paragraph : terms.split("\n\n")) {
            for (String sentence : paragraph.replaceAll("\\s+", " ").trim().split("(?<=\\.) ")) {
                add(all, "Terms", sentence);
            }
        }
        Matcher promise = Pattern.compile("(?s)\n## Promise (\\d+): (.*?)(?=\n## )").matcher(document);
        while (promise.find()) {
            for (String part : promise.group(2).split("\n\n|\n(?=- )")) {
                add(all, promise.group(1), part.replaceAll("\\s+", " ").trim().replaceAll("^`[^`]*`: ", ""));
            }
        }
        return all;
    }

    /** Headings, and lines that only say what a parameter or a call is, name nothing that could break. */
    private static void add(List<String> all, String where, String sentence) {
        boolean isRule = where.equals("Terms") && sentence.split(" ").length > 3;
        boolean isAnswer = sentence.startsWith("Returns ") || sentence.startsWith("Throws ");
        if (isRule || isAnswer || !where.equals("Terms") && sentence.contains(",")) {
            all.add(where + ": " + sentence);
        }
    }
}
