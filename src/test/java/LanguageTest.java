import java.io.IOException;
import java.lang.reflect.Field;
import java.lang.reflect.Modifier;
import java.nio.file.Files;
import java.nio.file.Path;
import java.util.ArrayDeque;
import java.util.Arrays;
import java.util.Deque;
import java.util.List;
import java.util.Map;
import java.util.TreeMap;
import java.util.regex.Matcher;
import java.util.regex.Pattern;

/** The rules of ../shared/LANGUAGE.md that can be seen in the source's words. */
public final class LanguageTest {
    private static final Kit KIT = new Kit();

    private static final String[] FORBIDDEN = {"throw", "throws", "try", "catch", "synchronized", "assert", "->", "::",
        "Exact", "package", "protected", "Object", "System\\.(?!arraycopy)", "Random", "Thread", "volatile", "native",
        "transient", "HashMap", "Map", "Set<", "String\\.", "yield", "var", "hashCode", "toString",
        "static \\{", "\\[\\]\\[\\]\\[\\]"};

    /** All that the source may use of these classes. */
    private static final List<String> LIBRARY = Arrays.asList("Math.max", "Math.min", "Math.abs", "Integer.bitCount",
            "System.arraycopy", "Arrays.fill", "Arrays.copyOf", "Arrays.copyOfRange");

    private static final String[] FACE = {"feed", "end", "text", "fault", "house", "worth", "deed", "till", "state",
        "dinner", "served", "comes", "keep", "theft", "evenings", "hidden", "heirs", "fact", "fits", "drawn", "lasting",
        "lit", "dusky", "fitter", "unlike", "spread", "depth", "spare", "guarded", "evening", "leaks", "cut", "after",
        "would", "count", "image", "again"};

    private static String withoutComments(String source) {
        return source.replaceAll("(?s)/\\*.*?\\*/", "").replaceAll("//[^\\n]*", "")
                .replaceAll("\"[^\"\\n]*\"", "\"\"");
    }

    private static void words(String code) {
        for (String word : FORBIDDEN) {
            String bounded = word.matches("[A-Za-z]+") ? "\\b" + word + "\\b" : word;
            Matcher m = Pattern.compile(bounded).matcher(code);
            KIT.due("'" + word + "' is not in the source", m.find(), false);
        }
        Matcher call = Pattern.compile("\\b(Math|Integer|Long|System|Arrays|String)\\.\\w+").matcher(code);
        while (call.find()) {
            KIT.due(call.group() + " may be used", LIBRARY.contains(call.group()), true);
        }
        for (String line : code.split("\n")) {
            if (line.startsWith("import")) {
                KIT.due(line, line.equals("import java.util.Arrays;"), true);
            }
        }
    }

    private static void statics(String code) {
        for (String line : code.split("\n")) {
            boolean field = line.matches(".*\\bstatic\\b.*=.*") && !line.contains("(");
            KIT.due("final: " + line.trim(), field && !line.contains("final"), false);
            boolean inner = line.matches(".*\\b(class|interface|record|enum) \\w+.*\\{");
            KIT.due("static: " + line.trim(), inner && !line.contains("static") && !line.startsWith("public"), false);
        }
    }

    private static void methods(String code) {
        Map<String, Integer> publics = new TreeMap<>();
        Pattern head = Pattern.compile("^ +((?:public |private |static |final )*)[\\w\\[\\]<>]+ (\\w+)\\((.*)\\) \\{$");
        String[] lines = code.split("\n");
        for (int i = 0; i < lines.length; i++) {
            Matcher m = head.matcher(lines[i]);
            if (!m.matches() || lines[i].matches(" *(if|for|while|switch|else|return)\\b.*")
                    || lines[i].contains("} else")) {
                continue;
            }
            String name = m.group(2);
            int parameters = m.group(3).isEmpty() ? 0 : m.group(3).split(",").length;
            int length = lengthOf(lines, i);
            KIT.due(name + " has seven parameters at most", parameters <= 7, true);
            KIT.due(name + " has sixty lines at most", length <= 60, true);
            String body = String.join("\n", Arrays.copyOfRange(lines, i + 1, Math.min(lines.length, i + length)));
            boolean recursive = Pattern.compile("(?<![.\\w])" + name + "\\(").matcher(body).find();
            KIT.due(name + ", if it calls itself, is private and static", recursive
                    && !(m.group(1).contains("private") && m.group(1).contains("static")), false);
            if (m.group(1).contains("public")) {
                publics.merge(name, 1, Integer::sum);
            } else {
                KIT.due(name + " is no name of the face", Arrays.asList(FACE).contains(name), false);
            }
        }
        for (String name : FACE) {
            KIT.due(name + " is public, once", publics.getOrDefault(name, 0), 1);
        }
        KIT.due("no other public method", publics.size(), FACE.length);
    }

    private static void fields() {
        for (Class<?> c : TarnishTurns.class.getDeclaredClasses()) {
            long fields = Arrays.stream(c.getDeclaredFields()).filter(f -> !Modifier.isStatic(f.getModifiers())).count();
            KIT.due(c.getSimpleName() + " has twenty fields at most", fields <= 20, true);
            for (Field f : c.getDeclaredFields()) {
                boolean isConstant = Modifier.isFinal(f.getModifiers()) && f.getType().isPrimitive();
                KIT.due(c.getSimpleName() + "." + f.getName() + " is no state of the class",
                        Modifier.isStatic(f.getModifiers()) && !isConstant, false);
            }
        }
    }

    private static int lengthOf(String[] lines, int from) {
        Deque<Character> open = new ArrayDeque<>();
        for (int i = from; i < lines.length; i++) {
            for (char c : lines[i].toCharArray()) {
                if (c == '{') {
                    open.push(c);
                } else if (c == '}') {
                    open.pop();
                }
            }
            if (open.isEmpty()) {
                return i - from + 1;
            }
        }
        return lines.length;
    }

    public static void main(String[] args) throws IOException {
        String source = Files.readString(Path.of("src/main/java/TarnishTurns.java"));
        KIT.due("signs 1 to 127 alone", source.chars().allMatch(c -> c > 0 && c < 128), true);
        String code = withoutComments(source);
        words(code);
        statics(code);
        methods(code);
        fields();
        int classes = code.split("\\b(class|interface|record|enum) \\w+", -1).length - 1;
        KIT.due("twelve classes at most", classes <= 12, true);
        KIT.finish();
    }
}
