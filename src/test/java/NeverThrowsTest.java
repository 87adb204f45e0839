import java.lang.reflect.Method;
import java.lang.reflect.Modifier;
import java.util.ArrayList;
import java.util.Comparator;
import java.util.List;
import java.util.Random;

/**
 * Calls by chance with wild arguments: none throws, the same calls answer the same, and asking changes nothing: neither
 * what is told, nor what is answered to a later question.
 */
public final class NeverThrowsTest {
    private static final int[] WILD = {Integer.MIN_VALUE, Integer.MAX_VALUE, -100, -3, -2, -1, 0, 1, 2, 3, 4, 5, 6, 7, 8,
        9, 10, 11, 12, 17, 18, 20, 27, 28, 30, 37, 38, 40, 49, 50, 59, 60, 61, 67, 70, 80, 87, 88, 99, 100, 127, 128, 129,
        130, 255, 512, 600, 1023, 1024, 1 << 30};

    private static final List<String> CHANGING = List.of("feed", "end", "text", "image", "again");

    private static final Kit KIT = new Kit();

    private static List<Method> face() {
        List<Method> face = new ArrayList<>();
        for (Method m : TarnishTurns.class.getDeclaredMethods()) {
            if (Modifier.isPublic(m.getModifiers())) {
                face.add(m);
            }
        }
        face.sort(Comparator.comparing(Method::getName));
        return face;
    }

    private static Object[] argumentsFor(Method m, Random random) {
        Object[] arguments = new Object[m.getParameterCount()];
        boolean tame = random.nextInt(3) > 0;
        for (int i = 0; i < arguments.length; i++) {
            if (m.getParameterTypes()[i] == boolean.class) {
                arguments[i] = random.nextBoolean();
            } else {
                arguments[i] = tame ? random.nextInt(i == 0 ? 2 : 4) : WILD[random.nextInt(WILD.length)];
            }
        }
        return arguments;
    }

    private static String call(Method m, TarnishTurns x, Object[] arguments) {
        try {
            return String.valueOf(m.invoke(x, arguments));
        } catch (ReflectiveOperationException e) {
            return "threw " + e.getCause();
        }
    }

    private static String look(TarnishTurns x) {
        StringBuilder seen = new StringBuilder();
        for (int i = 0; i < 2; i++) {
            seen.append(x.fault(i));
            for (int what = 0; what < 90; what += what < 10 ? 1 : 3) {
                seen.append(' ').append(x.house(i, what));
            }
            for (int k = -1; k < 3; k++) {
                seen.append(' ').append(x.deed(i, k, 0)).append(' ').append(x.dinner(i, k, 0));
                seen.append(' ').append(x.fact(i, k, 0));
            }
        }
        for (int sort = 0; sort < 4; sort++) {
            seen.append(' ').append(x.count(sort));
        }
        return seen.append(' ').append(x.feed(0, 0, 0, 0, 0)).toString();
    }

    private static String textByChance(int sort, Random random) {
        Oracle o = Oracle.byChance(random, 8, 10);
        StringBuilder text = new StringBuilder();
        for (int i = random.nextInt(9); sort > 0 && i > 0; i--) {
            int[] deed = OracleMonth.deedByChance(random, o);
            text.append(sort == 1 ? OracleMonth.text(List.of(deed)) : sort == 2
                    ? "dinner 9 " + random.nextInt(8) + " " + (1 + random.nextInt(20)) + ";"
                    : "shone " + random.nextInt(8) + " " + random.nextInt(20) + ";");
        }
        return sort == 0 ? o.text() : text.toString();
    }

    /** What was done to an object, but for questions. */
    private interface Change {
        void to(TarnishTurns x);
    }

    /** The answer of an object that was never asked anything else. */
    private static String answerAnew(List<Change> changes, Method m, Object[] arguments) {
        TarnishTurns x = new TarnishTurns();
        for (Change change : changes) {
            change.to(x);
        }
        return call(m, x, arguments);
    }

    /** Of three objects one is never asked anything: it is to be as the others in the end. */
    private static void run(int seed, List<Method> face) {
        Random random = new Random(seed);
        TarnishTurns[] x = {new TarnishTurns(), new TarnishTurns(), new TarnishTurns()};
        List<Change> changes = new ArrayList<>();
        int texts = random.nextInt(9);
        for (int i = 0; i < 160; i++) {
            if (i < texts || i == 80) {
                int sort = random.nextInt(4);
                String text = textByChance(sort, random);
                int at = i % 2 == 0 ? -1 : random.nextInt(2);
                changes.add(one -> {
                    Kit.put(one, text);
                    one.text(sort, at);
                });
                for (TarnishTurns one : x) {
                    changes.get(changes.size() - 1).to(one);
                }
            }
            Method m = face.get(random.nextInt(face.size()));
            Object[] arguments = argumentsFor(m, random);
            String got = call(m, x[0], arguments);
            KIT.due("run " + seed + ", call " + i + " of " + m.getName() + " " + got, got.startsWith("threw"), false);
            KIT.due("run " + seed + ", call " + i + " alike", got.equals(call(m, x[1], arguments)), true);
            if (CHANGING.contains(m.getName())) {
                call(m, x[2], arguments);
                changes.add(one -> call(m, one, arguments));
            } else if (random.nextInt(4) == 0) {
                KIT.due("run " + seed + ", call " + i + " of " + m.getName() + " as if nothing else was asked",
                        got.equals(answerAnew(changes, m, arguments)), true);
            }
        }
        KIT.due("run " + seed + ", asking changes nothing", look(x[0]).equals(look(x[2])), true);
    }

    public static void main(String[] args) {
        List<Method> face = face();
        KIT.due("methods of the face", face.size(), 37);
        for (int seed = 0; seed < 2000; seed++) {
            run(seed, face);
        }
        KIT.finish();
    }
}
