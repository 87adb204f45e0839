import java.lang.management.ManagementFactory;
import java.lang.reflect.Array;
import java.lang.reflect.Field;
import java.lang.reflect.Modifier;
import java.util.ArrayDeque;
import java.util.Deque;
import java.util.IdentityHashMap;
import java.util.Map;

/**
 * All calls of one run live in one room: what an object holds is small, and calls make nothing more but the images.
 * (LANGUAGE.md, rule 12.)
 */
public final class RoomTest {
    private static final Kit KIT = new Kit();
    private static final int USED = 512;

    /** Bytes of the smallest object there is. */
    private static final int LEAST_OBJECT = 16;

    private static int objects = 0;
    private static long elements = 0;

    /** Counts all objects and arrays that can be reached, and their fields and elements. */
    private static void measure(Object from) throws IllegalAccessException {
        objects = 0;
        elements = 0;
        Map<Object, Boolean> seen = new IdentityHashMap<>();
        Deque<Object> open = new ArrayDeque<>();
        open.push(from);
        seen.put(from, true);
        while (!open.isEmpty()) {
            Object one = open.pop();
            objects++;
            if (one.getClass().isArray()) {
                elements += Array.getLength(one);
                for (int i = 0; !one.getClass().getComponentType().isPrimitive() && i < Array.getLength(one); i++) {
                    visit(Array.get(one, i), seen, open);
                }
                continue;
            }
            for (Field f : one.getClass().getDeclaredFields()) {
                if (!Modifier.isStatic(f.getModifiers())) {
                    elements++;
                    f.setAccessible(true);
                    visit(f.getType().isPrimitive() ? null : f.get(one), seen, open);
                }
            }
        }
    }

    private static void visit(Object one, Map<Object, Boolean> seen, Deque<Object> open) {
        if (one != null && seen.put(one, true) == null) {
            open.push(one);
        }
    }

    private interface Call {
        void of(TarnishTurns x);
    }

    /** The dearest of each call, in a HOUSE of as many PIECES, SECRETS, LINKS as may be. */
    private static final Call[] CALLS = {x -> x.feed(1, 2, 3, 4, 5), x -> x.end(0), RoomTest::readAgain, x -> x.fault(0),
        x -> x.house(0, 87), x -> x.worth(0, 9, 7), x -> x.deed(0, 39, 1), x -> x.till(0, 0), x -> x.state(0, 0, 40, 37),
        x -> x.dinner(0, 7, 2), x -> x.served(0, 0, 7), x -> x.served(0, 0, -2), x -> x.comes(0, 3),
        x -> x.keep(0, 9, false), x -> x.keep(0, 9, true), x -> x.theft(0, 4, true), x -> x.evenings(0, 60),
        x -> x.hidden(0, 9, 5, true), x -> x.heirs(0, true), x -> x.fact(0, 7, 1), x -> x.fits(0, 0, 4),
        x -> x.drawn(0, 7, 60, 10), x -> x.lasting(0, 7, 60, true), x -> x.lit(0, 1), x -> x.dusky(0, 9, true),
        x -> x.fitter(0, true), x -> x.unlike(0, 0), x -> x.spread(0, 2), x -> x.depth(0, 3, 9), x -> x.spare(0),
        x -> x.guarded(0, 4, 4, true), x -> x.evening(0, 60, 9), x -> x.leaks(0, 5, true), x -> x.cut(0, 3, true),
        x -> x.after(0, 0, 0), x -> x.would(0, 0, 0, 7), x -> x.count(3), x -> x.image(2), x -> x.again(2)};

    /** Image 2 has a HOUSE's text on the tape. */
    private static void readAgain(TarnishTurns x) {
        x.again(2);
        x.text(0, 0);
    }

    private static TarnishTurns great() {
        StringBuilder house = new StringBuilder(Kit.times("piece will 9;", 8));
        for (int s = 0; s < 10; s++) {
            house.append("secret will ").append(21 + s).append(';');
        }
        for (int s = 0; s < 8; s++) {
            house.append("link ").append(s).append(' ').append(s + 1).append(' ').append(s + 2).append(';');
            house.append("knows ").append(s).append(' ').append(s).append(';');
        }
        TarnishTurns x = Kit.with(house.toString(), Kit.times("both 9 6 7;", 40), Kit.times("dinner 0 7 1;", 8),
                Kit.times("shone 7 7;", 8));
        Kit.put(x, house.toString());
        return x;
    }

    /** Bytes that this thread has taken from the heap so far. */
    private static long taken() {
        return ((com.sun.management.ThreadMXBean) ManagementFactory.getThreadMXBean()).getCurrentThreadAllocatedBytes();
    }

    /** The bounds are some tenth above what is needed now. */
    private static void holds() throws IllegalAccessException {
        measure(new TarnishTurns());
        KIT.due("a new object has 80 objects at most, not " + objects, objects <= 80, true);
        KIT.due("a new object has 6200 elements at most, not " + elements, elements <= 6200, true);
        TarnishTurns x = great();
        for (int k = 0; k < 3; k++) {
            x.image(k);
        }
        for (Call call : CALLS) {
            call.of(x);
        }
        measure(x);
        int used = objects;
        long full = elements;
        KIT.due("a used object has 190 objects at most, not " + used, used <= 190, true);
        KIT.due("a used object has 10200 elements at most, not " + full, full <= 10200, true);
        for (int calls = 0; calls < 300; calls++) {
            CALLS[calls % CALLS.length].of(x);
        }
        measure(x);
        KIT.due("objects behind many calls", objects, used);
        KIT.due("elements behind many calls", elements, full);
    }

    private static void makes() {
        for (int c = 0; c < CALLS.length; c++) {
            TarnishTurns x = great();
            x.image(2);
            // The first calls may make what the machine itself needs.
            for (int i = 0; i < 20; i++) {
                CALLS[c].of(x);
            }
            long ahead = taken();
            for (int i = 0; i < USED; i++) {
                CALLS[c].of(x);
            }
            long bytes = taken() - ahead;
            KIT.due("call " + c + " makes nothing, 512 times, not " + bytes + " bytes", bytes < USED * LEAST_OBJECT, true);
        }
    }

    public static void main(String[] args) throws IllegalAccessException {
        holds();
        makes();
        KIT.finish();
    }
}
