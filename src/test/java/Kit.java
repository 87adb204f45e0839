import java.io.IOException;
import java.io.UncheckedIOException;
import java.nio.file.Files;
import java.nio.file.Path;

/** What the tests share: texts onto the tape, and answers held against those that are due. */
final class Kit {
    static final String SILVER = "piece love 2;piece debt 3;piece will 0;secret love 5;secret debt 4;"
            + "secret death 9;secret will 3;knows 0 1;knows 1 1;knows 1 2;link 0 1 2;link 2 3 0;";

    private int wrong = 0;
    private int asked = 0;
    private String sentence = "";
    private String document = "";

    /** The sentence that the next answers are held against: its words must be the document's own. */
    void of(String words) {
        if (document.isEmpty()) {
            document = document();
        }
        sentence = "";
        due("the document says '" + words + "'", document.contains(words), true);
        sentence = " ('" + words + "')";
    }

    private static String document() {
        try {
            return Files.readString(Path.of("../shared/DOC.md")).replaceAll("\\s+", " ");
        } catch (IOException e) {
            throw new UncheckedIOException(e);
        }
    }

    void due(String call, long got, long want) {
        asked++;
        if (got != want) {
            wrong++;
            if (wrong <= 40) {
                System.out.println(call + " answered " + got + ", due is " + want + sentence);
            }
        }
    }

    void due(String call, boolean got, boolean want) {
        due(call, got ? 1 : 0, want ? 1 : 0);
    }

    /** Exit code 1 if an answer was not the one that is due. */
    void finish() {
        System.out.println(asked + " answers, " + wrong + " wrong");
        if (wrong != 0) {
            System.exit(1);
        }
    }

    /** Makes the tape just this text, whatever was on it. */
    static void put(TarnishTurns x, String text) {
        x.end(0);
        StringBuilder padded = new StringBuilder(text);
        while (padded.length() % 20 != 0) {
            padded.append(' ');
        }
        for (int at = 0; at < padded.length(); at += 20) {
            x.feed(four(padded, at), four(padded, at + 4), four(padded, at + 8), four(padded, at + 12),
                    four(padded, at + 16));
        }
        x.end(text.length());
    }

    static int four(CharSequence text, int at) {
        return text.charAt(at) << 24 | text.charAt(at + 1) << 16 | text.charAt(at + 2) << 8 | text.charAt(at + 3);
    }

    static int tell(TarnishTurns x, int sort, String text) {
        put(x, text);
        return x.text(sort, TarnishTurns.NONE);
    }

    /** A new object with texts of these sorts, null for none. */
    static TarnishTurns with(String house, String month, String dinners, String log) {
        TarnishTurns x = new TarnishTurns();
        String[] texts = {house, month, dinners, log};
        for (int sort = 0; sort < texts.length; sort++) {
            if (texts[sort] != null && tell(x, sort, texts[sort]) != 0) {
                throw new IllegalStateException("a test's own text is not taken: " + texts[sort]);
            }
        }
        return x;
    }

    /** A new object with one HOUSE alone. */
    static TarnishTurns home(String house) {
        return with(house, null, null, null);
    }

    static String times(String line, int n) {
        return line.repeat(n);
    }
}
