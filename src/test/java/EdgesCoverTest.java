import java.io.IOException;
import java.nio.file.DirectoryStream;
import java.nio.file.Files;
import java.nio.file.Path;
import java.util.ArrayList;
import java.util.List;
import java.util.regex.Matcher;
import java.util.regex.Pattern;

/** That each refusal and each range the document names is in a sentence that some edge test stands for. */
public final class EdgesCoverTest {
    private static final Due DUE = new Due("EdgesCoverTest");
    private static final int PROMISES = 23;
    private static final Pattern SENTENCE = Pattern.compile("@Sentence\\(promise = (\\d+), says = \"((?:[^\"\\\\]|\\\\.)*)\"\\)");
    private static final Pattern REFUSAL = Pattern.compile("\\b(?:UNKNOWN|OUTSIDE|STATE|FULL)\\b[^;.]*");
    private static final Pattern RANGE = Pattern.compile("\\w+ \\((?:\\d+ to \\d+|\\d+ or \\d+|\\d+, \\d+|\\d+ at (?:most|least))[^()]*\\)");

    private EdgesCoverTest() {
    }

    public static void main(String[] args) throws IOException {
        List<List<String>> tested = sentencesTested();
        for (int promise = 1; promise <= PROMISES; promise++) {
            DUE.holds("promise " + promise + " has an edge test", !tested.get(promise).isEmpty());
            covers(promise, REFUSAL, tested.get(promise));
            covers(promise, RANGE, tested.get(promise));
        }
        List<String> all = new ArrayList<>();
        tested.forEach(all::addAll);
        covers(0, RANGE, all);
        DUE.end();
    }

    private static void covers(int promise, Pattern what, List<String> tested) throws IOException {
        Matcher m = what.matcher(promise == 0 ? terms() : Document.section(promise));
        while (m.find()) {
            String part = m.group().trim();
            DUE.holds("promise " + promise + ": '" + part + "' has a test", tested.stream().anyMatch(says -> says.contains(part)));
        }
    }

    /** Without the list of calls and the sentence that says what each refusal is called. */
    private static String terms() throws IOException {
        String text = Document.section(0);
        return text.substring(text.indexOf("\n## Terms"));
    }

    private static List<List<String>> sentencesTested() throws IOException {
        List<List<String>> tested = new ArrayList<>();
        for (int promise = 0; promise <= PROMISES; promise++) {
            tested.add(new ArrayList<>());
        }
        try (DirectoryStream<Path> tests = Files.newDirectoryStream(Path.of("src/test/java"), "*EdgesTest.java")) {
            for (Path test : tests) {
                Matcher m = SENTENCE.matcher(Files.readString(test));
                while (m.find()) {
                    tested.get(Integer.parseInt(m.group(1))).add(m.group(2));
                }
            }
        }
        return tested;
    }
}
