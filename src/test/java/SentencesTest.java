import java.io.IOException;
import java.nio.file.Files;
import java.nio.file.Path;
import java.util.BitSet;
import java.util.List;
import java.util.regex.Matcher;
import java.util.regex.Pattern;
import java.util.stream.Collectors;
import java.util.stream.Stream;

/** Each place of the document that names a boundary case is among the words which a test says that it holds (Kit.of). */
public final class SentencesTest {
    private static final Kit KIT = new Kit();

    /** What a boundary case is named by: bounds, refusals, what is cut, which one of several, what is empty. */
    private static final Pattern BOUNDARY = Pattern.compile("\\d \\.\\. \\d|\\d to \\d|at most|up to|at least|NONE|-2\\b|false"
            + "|if more|\\(cut\\)|the least|the first|the fewest|no such|none|\\b0\\b|without|can't|not there|too heavy");

    private static final Pattern QUOTE = Pattern.compile("KIT\\.of\\(((?:\\s*\\+?\\s*\"[^\"]*\")+)\\)");

    private static String sources() throws IOException {
        try (Stream<Path> files = Files.list(Path.of("src/test/java"))) {
            List<Path> tests = files.sorted().collect(Collectors.toList());
            StringBuilder all = new StringBuilder();
            for (Path test : tests) {
                all.append(Files.readString(test)).append('\n');
            }
            return all.toString();
        }
    }

    private static BitSet held(String document, String sources) {
        BitSet held = new BitSet();
        Matcher quote = QUOTE.matcher(sources);
        while (quote.find()) {
            String words = quote.group(1).replaceAll("\"\\s*\\+\\s*\"", "").trim();
            words = words.substring(1, words.length() - 1);
            for (int at = document.indexOf(words); at >= 0; at = document.indexOf(words, at + 1)) {
                held.set(at, at + words.length());
            }
        }
        return held;
    }

    public static void main(String[] args) throws IOException {
        String document = Files.readString(Path.of("../shared/DOC.md")).replaceAll("\\s+", " ");
        BitSet held = held(document, sources());
        int from = document.indexOf("## Terms");
        int to = document.indexOf("## Not promised");
        KIT.due("the document has terms and promises", from >= 0 && to > from, true);
        Matcher boundary = BOUNDARY.matcher(document).region(from, to);
        while (boundary.find()) {
            String near = document.substring(Math.max(0, boundary.start() - 40), boundary.end() + 20);
            KIT.due("'" + boundary.group() + "' is held by a test, in: " + near, held.get(boundary.start()), true);
        }
        KIT.finish();
    }
}
