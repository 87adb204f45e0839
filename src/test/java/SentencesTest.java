import java.io.IOException;
import java.nio.file.Files;
import java.nio.file.Path;
import java.util.BitSet;
import java.util.List;
import java.util.regex.Matcher;
import java.util.regex.Pattern;
import java.util.stream.Collectors;
import java.util.stream.Stream;

/**
 * Each word of the document, from its first line up to 'Not promised', is among the words which a test says that it holds
 * (Kit.of), but for heads and the face, which FaceTest holds.
 */
public final class SentencesTest {
    private static final Kit KIT = new Kit();

    private static final Pattern QUOTE = Pattern.compile("KIT\\.of\\(((?:\\s*\\+?\\s*\"[^\"]*\")+)\\)");

    /** Heads, the face, marks of the page, and the numbers of Terms: nothing that could be broken by an answer. */
    private static final Pattern FRAME = Pattern.compile("# TarnishTurns ## What it is|## The public face ```java .*? \\} ```"
            + "|## Terms|## Promise \\d+: [a-zA-Z ]+ `[^`]+`:|```text|```| \\d\\. (?=[A-Z(])");

    private static String sources() throws IOException {
        try (Stream<Path> files = Files.list(Path.of("src/test/java"))) {
            List<Path> tests = files.sorted().collect(Collectors.toList());
            StringBuilder all = new StringBuilder();
            for (Path test : tests) {
                all.append(Files.readString(test)).append('\n');
            }
            return all.toString();
        }
    }

    private static BitSet held(String document, String sources) {
        BitSet held = new BitSet();
        Matcher quote = QUOTE.matcher(sources);
        while (quote.find()) {
            String words = quote.group(1).replaceAll("\"\\s*\\+\\s*\"", "").trim();
            words = words.substring(1, words.length() - 1);
            for (int at = document.indexOf(words); at >= 0; at = document.indexOf(words, at + 1)) {
                held.set(at, at + words.length());
            }
        }
        return held;
    }

    private static BitSet framed(String document) {
        BitSet framed = new BitSet();
        Matcher frame = FRAME.matcher(document);
        while (frame.find()) {
            framed.set(frame.start(), frame.end());
        }
        return framed;
    }

    public static void main(String[] args) throws IOException {
        String document = Files.readString(Path.of("../shared/DOC.md")).replaceAll("\\s+", " ");
        BitSet held = held(document, sources());
        held.or(framed(document));
        int to = document.indexOf("## Not promised");
        KIT.due("the document says what is not promised", to > 0, true);
        Matcher word = Pattern.compile("[A-Za-z0-9_']+").matcher(document).region(0, Math.max(to, 0));
        while (word.find()) {
            String near = document.substring(Math.max(0, word.start() - 40), word.end() + 20);
            KIT.due("'" + word.group() + "' is held by a test, in: " + near, held.get(word.start()), true);
        }
        KIT.finish();
    }
}
