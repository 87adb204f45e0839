import java.io.IOException;
import java.lang.reflect.Constructor;
import java.lang.reflect.Field;
import java.lang.reflect.Method;
import java.lang.reflect.Modifier;
import java.nio.file.Files;
import java.nio.file.Path;
import java.util.ArrayList;
import java.util.List;
import java.util.Set;
import java.util.TreeSet;
import java.util.regex.Matcher;
import java.util.regex.Pattern;
import java.util.stream.Collectors;
import java.util.stream.Stream;

/** 'The public face', and each promise's head: the class has just these members, of these types and names. */
public final class FaceTest {
    private static final Kit KIT = new Kit();

    private static final Pattern HEAD = Pattern.compile("## Promise (\\d+): ([^\\n]+)\\n\\n`([^`]+)`:");

    private static List<String> faceOf(String document) {
        int from = document.indexOf("```java\n") + 8;
        int to = document.indexOf("```", from);
        return Stream.of(document.substring(from, to).split("\n")).map(String::trim).filter(line -> !line.equals("}"))
                .collect(Collectors.toList());
    }

    private static String withoutNames(String parameters) {
        List<String> types = new ArrayList<>();
        for (String parameter : parameters.split(",")) {
            types.add(parameter.trim().split(" ")[0]);
        }
        return String.join(",", types);
    }

    private static String typesOf(Class<?>[] parameters) {
        return Stream.of(parameters).map(Class::getName).collect(Collectors.joining(","));
    }

    /** The face's lines as Java itself would say them, without the parameters' names. */
    private static Set<String> wanted(List<String> face) {
        Set<String> members = new TreeSet<>();
        for (String line : face) {
            int open = line.indexOf('(');
            if (open < 0) {
                members.add(line);
            } else {
                members.add(line.substring(0, open) + "(" + withoutNames(line.substring(open + 1, line.indexOf(')'))) + ")");
            }
        }
        return members;
    }

    private static boolean isPrivate(int modifiers) {
        return Modifier.isPrivate(modifiers);
    }

    private static Set<String> members() throws IllegalAccessException {
        Class<?> c = TarnishTurns.class;
        Set<String> members = new TreeSet<>();
        members.add(Modifier.toString(c.getModifiers()) + " class " + c.getName() + " {");
        for (Field f : c.getDeclaredFields()) {
            if (!isPrivate(f.getModifiers()) && !f.isSynthetic()) {
                members.add(Modifier.toString(f.getModifiers()) + " " + f.getType().getName() + " " + f.getName() + " = "
                        + f.get(null) + ";");
            }
        }
        for (Constructor<?> made : c.getDeclaredConstructors()) {
            members.add(Modifier.toString(made.getModifiers()) + " " + c.getName() + "("
                    + typesOf(made.getParameterTypes()) + ")");
        }
        for (Method m : c.getDeclaredMethods()) {
            if (!isPrivate(m.getModifiers()) && !m.isSynthetic()) {
                members.add(Modifier.toString(m.getModifiers()) + " " + m.getReturnType().getName() + " " + m.getName() + "("
                        + typesOf(m.getParameterTypes()) + ")");
                KIT.due(m.getName() + " names no exception", m.getExceptionTypes().length, 0);
            }
        }
        return members;
    }

    private static void inner() {
        Class<?> c = TarnishTurns.class;
        KIT.due("no class above it", c.getSuperclass() == Object.class, true);
        KIT.due("no interface", c.getInterfaces().length, 0);
        KIT.due("no package", c.getPackageName().isEmpty(), true);
        for (Class<?> in : c.getDeclaredClasses()) {
            KIT.due(in.getName() + " is static", Modifier.isStatic(in.getModifiers()), true);
            KIT.due(in.getName() + " is not seen from outside",
                    Modifier.isPublic(in.getModifiers()) || Modifier.isProtected(in.getModifiers()), false);
        }
    }

    /** Names of parameters are the document's, too: they are what README and callers speak of. */
    private static void inSource(List<String> face) throws IOException {
        String source = Files.readString(Path.of("src/main/java/TarnishTurns.java"));
        for (String line : face) {
            String head = line.contains("(") ? line.replace(";", " {") : line;
            KIT.due("the source says: " + head, source.contains(head), true);
        }
    }

    private static void heads(String document, List<String> face) {
        Matcher head = HEAD.matcher(document);
        int number = 0;
        while (head.find()) {
            number++;
            KIT.due("promise " + number, Integer.parseInt(head.group(1)), number);
            KIT.due("promise " + number + " is of the face: " + head.group(3), face.contains("public " + head.group(3) + ";"),
                    true);
            KIT.due("promise " + number + " names its call: " + head.group(3),
                    number == 1 || head.group(3).contains(" " + head.group(2) + "("), true);
        }
        KIT.due("promises", number, 38);
        KIT.due("each call of the face has its promise", face.stream().filter(line -> line.contains("(")).count(), number);
    }

    public static void main(String[] args) throws IOException, IllegalAccessException {
        String document = Files.readString(Path.of("../shared/DOC.md"));
        List<String> face = faceOf(document);
        Set<String> wanted = wanted(face);
        Set<String> members = members();
        for (String one : wanted) {
            KIT.due("the class has: " + one, members.contains(one), true);
        }
        for (String one : members) {
            KIT.due("the document has: " + one, wanted.contains(one), true);
        }
        KIT.due("members", members.size(), 40);
        inner();
        inSource(face);
        heads(document, face);
        KIT.finish();
    }
}
