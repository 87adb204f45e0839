import java.util.ArrayList;
import java.util.List;
import java.util.Random;
import java.util.regex.Matcher;
import java.util.regex.Pattern;

/** Texts by chance, most of them spoilt, held against a second reader made of regular expressions. */
public final class FaultsTest {
    private static final Kit KIT = new Kit();
    private static final Random RANDOM = new Random(38);

    private static final Pattern TOKEN = Pattern.compile("[a-z]+|[0-9]+|[^a-z0-9 \\n]");

    private static final String[][] LINES = {
        {"piece K N;", "secret K N;", "knows N N;", "link N N N;"},
        {"tell N N;", "both N N N;", "polish N;", "steal N;", "back N;", "hour;"},
        {"dinner N N N;"},
        {"shone N N;"}};

    private static final String[] KINDS = {"love", "debt", "death", "will"};

    /** {FAULT, place}: every text that may go on is tried by words. */
    private static int[] faultOf(int sort, String text) {
        List<String> tokens = new ArrayList<>();
        List<Integer> places = new ArrayList<>();
        Matcher m = TOKEN.matcher(text);
        while (m.find()) {
            tokens.add(m.group());
            places.add(m.start());
        }
        places.add(text.length());
        List<Integer> starts = new ArrayList<>();
        int at = 0;
        while (at < tokens.size()) {
            starts.add(at);
            int most = -1;
            int whole = -1;
            for (String line : LINES[sort]) {
                String[] shape = line.replace(";", " ;").split(" +");
                int same = 0;
                while (same < shape.length && at + same < tokens.size() && isLike(tokens.get(at + same), shape[same])) {
                    same++;
                }
                most = Math.max(most, same);
                whole = same == shape.length ? same : whole;
            }
            if (whole < 0) {
                return new int[] {1, places.get(at + most)};
            }
            at += whole;
        }
        int[] soft = softFault(sort, tokens, places, starts);
        return soft != null ? soft : missing(sort, tokens, starts, text.length());
    }

    private static boolean isLike(String token, String shape) {
        switch (shape) {
            case "K":
                return List.of(KINDS).contains(token);
            case "N":
                return token.matches("[0-9][0-9]?");
            default:
                return token.equals(shape);
        }
    }

    private static int[] softFault(int sort, List<String> tokens, List<Integer> places, List<Integer> starts) {
        int pieces = 0;
        int secrets = 0;
        int links = 0;
        int others = 0;
        int hour = 0;
        for (int at : starts) {
            String verb = tokens.get(at);
            boolean many;
            switch (verb) {
                case "piece":
                    many = ++pieces > 8;
                    break;
                case "secret":
                    many = ++secrets > 10;
                    break;
                case "link":
                    many = ++links > 8;
                    break;
                case "knows":
                    many = false;
                    break;
                default:
                    many = ++others > (sort == 1 ? 40 : 8);
                    break;
            }
            if (many) {
                return new int[] {3, places.get(at)};
            }
            int wrong = wrongNumber(tokens, at, hour);
            if (wrong > 0) {
                return new int[] {2, places.get(at + wrong)};
            }
            hour = verb.equals("dinner") ? number(tokens, at + 1) : 0;
        }
        return null;
    }

    private static int number(List<String> tokens, int at) {
        return Integer.parseInt(tokens.get(at));
    }

    private static boolean isOut(List<String> tokens, int at, int least, int most) {
        return number(tokens, at) < least || number(tokens, at) > most;
    }

    /** Which token of a line is a NUMBER that can't be: 0 for none. */
    private static int wrongNumber(List<String> tokens, int at, int hour) {
        switch (tokens.get(at)) {
            case "piece":
                return isOut(tokens, at + 2, 0, 9) ? 2 : 0;
            case "secret":
                return isOut(tokens, at + 2, 1, 30) ? 2 : 0;
            case "knows":
                return isOut(tokens, at + 1, 0, 7) ? 1 : isOut(tokens, at + 2, 0, 9) ? 2 : 0;
            case "link": {
                int a = number(tokens, at + 1);
                int b = number(tokens, at + 2);
                int c = number(tokens, at + 3);
                return a > 9 ? 1 : b > 9 || b == a ? 2 : c > 9 || c == a || c == b ? 3 : 0;
            }
            case "tell":
                return isOut(tokens, at + 1, 0, 9) ? 1 : isOut(tokens, at + 2, 0, 7) ? 2 : 0;
            case "both": {
                int p = number(tokens, at + 2);
                int q = number(tokens, at + 3);
                return isOut(tokens, at + 1, 0, 9) ? 1 : p > 7 ? 2 : q > 7 || q == p ? 3 : 0;
            }
            case "polish":
            case "steal":
            case "back":
                return isOut(tokens, at + 1, 0, 7) ? 1 : 0;
            case "dinner":
                return isOut(tokens, at + 1, hour, 60) ? 1
                        : isOut(tokens, at + 2, 0, 7) ? 2 : isOut(tokens, at + 3, 1, 60) ? 3 : 0;
            case "shone":
                return isOut(tokens, at + 1, 0, 7) ? 1 : isOut(tokens, at + 2, 0, 60) ? 2 : 0;
            default:
                return 0;
        }
    }

    private static int[] missing(int sort, List<String> tokens, List<Integer> starts, int end) {
        int pieces = 0;
        int secrets = 0;
        int piece = -1;
        int secret = -1;
        for (int at : starts) {
            String verb = tokens.get(at);
            pieces += verb.equals("piece") ? 1 : 0;
            secrets += verb.equals("secret") ? 1 : 0;
            if (verb.equals("knows")) {
                piece = Math.max(piece, number(tokens, at + 1));
                secret = Math.max(secret, number(tokens, at + 2));
            }
            for (int i = 1; verb.equals("link") && i <= 3; i++) {
                secret = Math.max(secret, number(tokens, at + i));
            }
        }
        boolean there = sort != 0 || piece < pieces && secret < secrets;
        return there ? new int[] {0, -1} : new int[] {4, end};
    }

    private static String lineByChance(int sort) {
        String[] shapes = LINES[RANDOM.nextInt(60) == 0 ? RANDOM.nextInt(4) : sort];
        StringBuilder line = new StringBuilder();
        for (char c : shapes[RANDOM.nextInt(shapes.length)].toCharArray()) {
            if (c == 'K') {
                line.append(KINDS[RANDOM.nextInt(4)]);
            } else if (c == 'N') {
                line.append(RANDOM.nextInt(20) == 0 ? RANDOM.nextInt(120) : 1 + RANDOM.nextInt(7));
            } else {
                line.append(c);
            }
        }
        return line.toString();
    }

    private static String textByChance(int sort) {
        StringBuilder text = new StringBuilder();
        int lines = RANDOM.nextInt(RANDOM.nextInt(4) == 0 ? 60 : 10);
        if (sort == 0 && RANDOM.nextBoolean()) {
            text.append("piece love 1;".repeat(8)).append("secret will 2;".repeat(10));
        }
        for (int i = 0; i < lines; i++) {
            String line = lineByChance(sort);
            if (text.length() + line.length() <= 600) {
                text.append(line);
            }
        }
        String wild = "az09;; \n\n A-{`/:\u0000\u00ff\u0080\u009b";
        for (int i = RANDOM.nextInt(6) - 3; i > 0 && text.length() > 0; i--) {
            int at = RANDOM.nextInt(text.length());
            char c = wild.charAt(RANDOM.nextInt(wild.length()));
            if (RANDOM.nextBoolean() && text.length() < 600) {
                text.insert(at, c);
            } else if (RANDOM.nextBoolean()) {
                text.setCharAt(at, c);
            } else {
                text.deleteCharAt(at);
            }
        }
        return text.toString();
    }

    public static void main(String[] args) {
        int[] seen = new int[5];
        for (int i = 0; i < 40000; i++) {
            int sort = RANDOM.nextInt(4);
            String text = textByChance(sort);
            int[] want = faultOf(sort, text);
            TarnishTurns x = new TarnishTurns();
            KIT.due("text of sort " + sort + ": " + text, Kit.tell(x, sort, text), want[0] == 0 ? 0 : -1);
            KIT.due("fault of sort " + sort + ": " + text, x.fault(0), want[0]);
            KIT.due("place of sort " + sort + ": " + text, x.fault(1), want[1]);
            seen[want[0]]++;
        }
        for (int fault = 0; fault < 5; fault++) {
            KIT.due("enough texts of fault " + fault + " (" + seen[fault] + ")", seen[fault] > 100, true);
        }
        KIT.finish();
    }
}
