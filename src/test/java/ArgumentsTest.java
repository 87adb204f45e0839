import java.util.Set;
import java.util.TreeSet;
import java.util.function.IntPredicate;
import java.util.function.Supplier;

/**
 * Each number that a call is given, by itself: every value that may be is answered, every other one, up to the least
 * and the greatest int, is refused; and a refusal changes nothing but what the document says that it changes.
 */
public final class ArgumentsTest {
    private static final int NONE = TarnishTurns.NONE;
    private static final int NO_SUCH = -2;
    private static final Kit KIT = new Kit();

    /** A call in which one number is left open. */
    private interface Ask {
        long with(TarnishTurns x, int value);
    }

    /** What all calls of a table are asked of, and how it looks as long as nothing changes it. */
    private static Supplier<TarnishTurns> fresh = TarnishTurns::new;
    private static String untouched = "";

    private static final int[] FAR = {Integer.MIN_VALUE, Integer.MIN_VALUE + 1, Integer.MIN_VALUE + 10, -1000000000, -65536,
        -1024, -512, -256, -128, 250, 255, 256, 257, 511, 512, 600, 601, 1000, 1022, 1023, 1024, 1025, 2047, 2048, 65535,
        65536, 65537, 1 << 24, 1 << 30, 1 << 30 | 1, Integer.MAX_VALUE - 10, Integer.MAX_VALUE - 1, Integer.MAX_VALUE};

    private static Set<Integer> values() {
        Set<Integer> values = new TreeSet<>();
        for (int value = -70; value <= 140; value++) {
            values.add(value);
        }
        for (int value : FAR) {
            values.add(value);
        }
        return values;
    }

    private static void over(Supplier<TarnishTurns> maker) {
        fresh = maker;
        untouched = look(maker.get());
    }

    /** An answer other than the refusal for what may be, the refusal for all else; nothing changes by either. */
    private static void asked(String call, long refusal, IntPredicate may, Ask ask) {
        for (int value : values()) {
            TarnishTurns x = fresh.get();
            long got = ask.with(x, value);
            if (may.test(value)) {
                KIT.due(call + " is answered for " + value, got != refusal, true);
            } else {
                KIT.due(call + " for " + value, got, refusal);
            }
            KIT.due(call + " changes nothing for " + value, look(x).equals(untouched), true);
        }
    }

    /** As asked(), but what may be changes something: only refusals are looked behind. */
    private static void changed(String call, long refusal, IntPredicate may, Ask ask, String behindRefusal) {
        for (int value : values()) {
            TarnishTurns x = fresh.get();
            long got = ask.with(x, value);
            if (may.test(value)) {
                KIT.due(call + " is answered for " + value, got != refusal, true);
            } else {
                KIT.due(call + " for " + value, got, refusal);
                KIT.due(call + " changes no more than it says for " + value, look(x).equals(behindRefusal), true);
            }
        }
    }

    private static IntPredicate upTo(int most) {
        return value -> value >= 0 && value <= most;
    }

    private static IntPredicate from(int least, int most) {
        return value -> value >= least && value <= most;
    }

    private static IntPredicate just(int... some) {
        return value -> {
            for (int one : some) {
                if (one == value) {
                    return true;
                }
            }
            return false;
        };
    }

    /** All that can be seen of an object: what is told, FAULT, tape, and the same of its images. */
    private static String look(TarnishTurns x) {
        StringBuilder seen = new StringBuilder(lookNow(x));
        for (int k = 0; k < 3; k++) {
            seen.append("; image ").append(k).append(' ').append(x.again(k));
            if (k != 1) {
                seen.append(lookNow(x));
            }
        }
        return seen.toString();
    }

    private static final int[] DETAILS = {0, 1, 2, 10, 11, 12, 20, 21, 22, 30, 31, 32, 40, 41, 42, 43, 50, 51, 52, 53,
        60, 61, 70, 71, 80, 81};

    /** Few enough questions that three times as many, and all that goes ahead of them, are no more than 512 calls. */
    private static String lookNow(TarnishTurns x) {
        StringBuilder seen = new StringBuilder();
        seen.append(x.fault(0)).append(' ').append(x.fault(1));
        for (int sort = 0; sort < 4; sort++) {
            seen.append(' ').append(x.count(sort));
        }
        for (int what : DETAILS) {
            seen.append(' ').append(x.house(0, what));
            if (what % 10 == 0) {
                seen.append(' ').append(x.house(1, what));
            }
        }
        for (int k = -1; k < 6; k++) {
            seen.append(' ').append(x.deed(0, k, 0)).append(' ').append(x.deed(0, k, k < 0 ? 0 : 1));
        }
        for (int k = -1; k < 4; k++) {
            seen.append(' ').append(x.dinner(0, k, 0)).append(' ').append(x.dinner(0, k, k < 0 ? 0 : 2));
            seen.append(' ').append(x.fact(0, k, 0)).append(' ').append(x.fact(0, k, k < 0 ? 0 : 1));
        }
        seen.append(' ').append(x.deed(1, NONE, 0)).append(' ').append(x.deed(1, 0, 0));
        seen.append(' ').append(x.dinner(1, NONE, 0)).append(' ').append(x.fact(1, NONE, 0));
        // The tape comes last, as looking takes it: how long it is, and its bytes by what they tell.
        seen.append(" tape ").append(tapeLength(x)).append(' ').append(x.text(1, 1));
        seen.append(' ').append(x.fault(0)).append(' ').append(x.fault(1));
        for (int k = -1; k < 4; k++) {
            seen.append(' ').append(x.deed(1, k, 0)).append(' ').append(x.deed(1, k, k < 0 ? 0 : 1));
        }
        return seen.toString();
    }

    /** Leaves the tape as it is: twenty blanks come and go, or the end is looked for where no more can come. */
    private static int tapeLength(TarnishTurns x) {
        int length = x.feed(0x20202020, 0x20202020, 0x20202020, 0x20202020, 0x20202020) - 20;
        for (int n = 600; n > 580 && length < 0; n--) {
            length = x.end(n);
        }
        return x.end(length);
    }

    private static final String DEEDS = "tell 0 0;both 2 1 2;polish 1;steal 2;hour;";
    private static final String DINNERS = "dinner 0 0 8;dinner 1 0 8;dinner 1 2 5;dinner 5 2 6;";
    private static final String LOG = "shone 0 3;shone 1 2;";

    /** Two texts of each sort, images 0 and 2, a FAULT if it shall be, and a tape. */
    private static TarnishTurns full(boolean faulty, String tape) {
        TarnishTurns x = Kit.with(Kit.SILVER, DEEDS, DINNERS, LOG);
        Kit.put(x, "back 0;");
        x.image(2);
        Kit.tell(x, 0, "piece will 9;secret debt 30;");
        Kit.tell(x, 1, "hour;");
        Kit.tell(x, 2, "dinner 0 0 1;");
        Kit.tell(x, 3, "");
        x.image(0);
        Kit.put(x, faulty ? "back 8;" : "hour;");
        x.text(1, 1);
        Kit.put(x, tape);
        return x;
    }

    private static TarnishTurns full() {
        return full(true, "hour;steal 3;back 3;");
    }

    /** As great as they may be, one of each sort. */
    private static TarnishTurns great() {
        return Kit.with(Kit.times("piece will 9;", 8) + Kit.times("secret will 30;", 10) + Kit.times("link 9 8 7;", 8),
                Kit.times("hour;", 40), Kit.times("dinner 0 7 1;", 8), Kit.times("shone 7 7;", 8));
    }

    /** One of each sort, without lines. */
    private static TarnishTurns bare() {
        return Kit.with("", "", "", "");
    }

    private static void houseDetails() {
        KIT.of("NONE: there is none such (of any), or for another what.");
        over(ArgumentsTest::full);
        asked("house, of a HOUSE", NONE, upTo(1), (x, v) -> x.house(v, 0));
        asked("house 0, what", NONE, just(0, 1, 2, 10, 11, 12, 20, 21, 22, 30, 31, 32, 40, 41, 42, 43, 50, 51, 52, 53,
                60, 61, 70, 71, 80, 81), (x, v) -> x.house(0, v));
        asked("house 1, what", NONE, just(0, 1, 2, 10, 20, 30, 40, 50), (x, v) -> x.house(1, v));
        over(ArgumentsTest::great);
        asked("house, as great as may be", NONE, v -> v >= 0 && v <= 2 || v >= 10 && v < 40 && v % 10 < 8
                || v >= 40 && v < 60 || v >= 60 && v < 90 && v % 10 < 8, (x, v) -> x.house(0, v));
        over(ArgumentsTest::bare);
        asked("house without lines, what", NONE, upTo(2), (x, v) -> x.house(0, v));
        KIT.of("WORTH of a SECRET to a PIECE, as told. NONE: there is none such (of any).");
        over(ArgumentsTest::full);
        asked("worth, of a HOUSE", NONE, upTo(1), (x, v) -> x.worth(v, 0, 0));
        asked("worth, of a SECRET", NONE, upTo(3), (x, v) -> x.worth(0, v, 2));
        asked("worth, to a PIECE", NONE, upTo(2), (x, v) -> x.worth(0, 3, v));
        asked("worth, of the other HOUSE's SECRET", NONE, upTo(0), (x, v) -> x.worth(1, v, 0));
        asked("worth, to the other HOUSE's PIECE", NONE, upTo(0), (x, v) -> x.worth(1, 0, v));
        over(ArgumentsTest::great);
        asked("worth, of the last SECRET", NONE, upTo(9), (x, v) -> x.worth(0, v, 7));
        asked("worth, to the last PIECE", NONE, upTo(7), (x, v) -> x.worth(0, 9, v));
        over(ArgumentsTest::bare);
        asked("worth, without SECRETS", NONE, v -> false, (x, v) -> x.worth(0, v, 0));
        asked("worth, without PIECES", NONE, v -> false, (x, v) -> x.worth(0, 0, v));
    }

    private static void rows() {
        over(ArgumentsTest::full);
        KIT.of("How many DEEDS (k NONE, what 0);");
        asked("deed, how many, what", NO_SUCH, just(0), (x, v) -> x.deed(0, NONE, v));
        KIT.of("1, 2, 3: its numbers (NONE without). -2: there is none such (of either), or for another what.");
        asked("deed, of a MONTH", NO_SUCH, upTo(1), (x, v) -> x.deed(v, NONE, 0));
        asked("deed, of a MONTH, its first", NO_SUCH, upTo(1), (x, v) -> x.deed(v, 0, 3));
        asked("deed, k", NO_SUCH, from(-1, 4), (x, v) -> x.deed(0, v, 0));
        asked("deed, what", NO_SUCH, upTo(3), (x, v) -> x.deed(0, 1, v));
        KIT.of("How many DINNERS (k NONE, what 0);");
        asked("dinner, how many, what", NO_SUCH, just(0), (x, v) -> x.dinner(0, NONE, v));
        KIT.of("what 0: HOUR, 1: PIECE, 2: LIGHT. -2: there is none such (of either), or for another what.");
        asked("dinner, of DINNERS", NO_SUCH, upTo(1), (x, v) -> x.dinner(v, NONE, 0));
        asked("dinner, of DINNERS, the first", NO_SUCH, upTo(1), (x, v) -> x.dinner(v, 0, 2));
        asked("dinner, k", NO_SUCH, from(-1, 3), (x, v) -> x.dinner(0, v, 0));
        asked("dinner, what", NO_SUCH, upTo(2), (x, v) -> x.dinner(0, 3, v));
        KIT.of("How many FACTS (k NONE, what 0);");
        asked("fact, how many, what", NO_SUCH, just(0), (x, v) -> x.fact(0, NONE, v));
        KIT.of("what 0: the PIECE, 1: how long. -2: there is none such (of either), or for another what.");
        asked("fact, of a LOG", NO_SUCH, upTo(1), (x, v) -> x.fact(v, NONE, 0));
        asked("fact, k", NO_SUCH, from(-1, 1), (x, v) -> x.fact(0, v, 0));
        asked("fact, what", NO_SUCH, upTo(1), (x, v) -> x.fact(0, 1, v));
        over(ArgumentsTest::great);
        asked("deed, k of as many as may be", NO_SUCH, from(-1, 39), (x, v) -> x.deed(0, v, 0));
        asked("dinner, k of as many as may be", NO_SUCH, from(-1, 7), (x, v) -> x.dinner(0, v, 0));
        asked("fact, k of as many as may be", NO_SUCH, from(-1, 7), (x, v) -> x.fact(0, v, 0));
        over(ArgumentsTest::bare);
        asked("deed, k without DEEDS", NO_SUCH, just(-1), (x, v) -> x.deed(0, v, 0));
        asked("dinner, k without DINNERS", NO_SUCH, just(-1), (x, v) -> x.dinner(0, v, 0));
        asked("fact, k without FACTS", NO_SUCH, just(-1), (x, v) -> x.fact(0, v, 0));
    }

    private static final IntPredicate STATE_WHATS = just(0, 1, 2, 3, 4, 10, 11, 12, 20, 21, 22, 30, 31, 32);

    private static void months() {
        over(ArgumentsTest::full);
        KIT.of("END. NONE: there is none such (of either).");
        asked("till, of a HOUSE", NONE, upTo(1), (x, v) -> x.till(v, 0));
        asked("till, of a MONTH", NONE, upTo(1), (x, v) -> x.till(0, v));
        KIT.of("-2: there is no such STATE, or for another what.");
        asked("state, of a HOUSE", NO_SUCH, upTo(1), (x, v) -> x.state(v, 0, 0, 0));
        asked("state, of a MONTH", NO_SUCH, upTo(1), (x, v) -> x.state(0, v, 0, 0));
        asked("state, n", NO_SUCH, upTo(5), (x, v) -> x.state(0, 0, v, 0));
        asked("state, n up to another END", NO_SUCH, upTo(1), (x, v) -> x.state(1, 0, v, 0));
        asked("state, what", NO_SUCH, STATE_WHATS, (x, v) -> x.state(0, 0, 5, v));
        asked("state, what of one PIECE", NO_SUCH, just(0, 1, 2, 3, 4, 10, 20, 30), (x, v) -> x.state(1, 0, 1, v));
        KIT.of("DRAWN, n times, what as state(). -2: there is none such, another n, or for another what.");
        asked("drawn, of a HOUSE", NO_SUCH, upTo(1), (x, v) -> x.drawn(v, 7, 9, 0));
        asked("drawn, by any SEED", NO_SUCH, v -> true, (x, v) -> x.drawn(0, v, 60, 10));
        asked("drawn, n", NO_SUCH, upTo(60), (x, v) -> x.drawn(0, 7, v, 12));
        asked("drawn, what", NO_SUCH, STATE_WHATS, (x, v) -> x.drawn(0, 7, 60, v));
        asked("drawn, what before anything", NO_SUCH, STATE_WHATS, (x, v) -> x.drawn(0, 7, 0, v));
        KIT.of("3: GREATEST. -2: there is none such (of either), or for another what.");
        asked("after, of a HOUSE", NO_SUCH, upTo(1), (x, v) -> x.after(v, 0, 1));
        asked("after, of a MONTH", NO_SUCH, upTo(1), (x, v) -> x.after(0, v, 1));
        asked("after, what", NO_SUCH, upTo(3), (x, v) -> x.after(0, 0, v));
        over(ArgumentsTest::great);
        asked("state, n of as many as may be", NO_SUCH, upTo(40), (x, v) -> x.state(0, 0, v, 0));
        asked("state, what of as many as may be", NO_SUCH, v -> v >= 0 && v < 5 || v >= 10 && v < 40 && v % 10 < 8,
                (x, v) -> x.state(0, 0, 40, v));
        asked("drawn, what of as many as may be", NO_SUCH, v -> v >= 0 && v < 5 || v >= 10 && v < 40 && v % 10 < 8,
                (x, v) -> x.drawn(0, -1, 60, v));
        over(ArgumentsTest::bare);
        asked("state, n without DEEDS", NO_SUCH, just(0), (x, v) -> x.state(0, 0, v, 0));
        asked("state, what without PIECES", NO_SUCH, upTo(4), (x, v) -> x.state(0, 0, 0, v));
        asked("drawn, what without PIECES", NO_SUCH, upTo(4), (x, v) -> x.drawn(0, 7, 60, v));
    }

    private static void tables() {
        over(ArgumentsTest::full);
        KIT.of("NONE: not all can be SERVED (but for SERVES), a PIECE is not there, or there is none such (of any).");
        asked("served, of a HOUSE", NONE, upTo(1), (x, v) -> x.served(v, 1, NONE));
        asked("served, which, of a HOUSE", NONE, upTo(1), (x, v) -> x.served(v, 1, 0));
        asked("serves, of a HOUSE", NONE, upTo(1), (x, v) -> x.served(v, 1, -2));
        asked("served, of DINNERS", NONE, upTo(1), (x, v) -> x.served(0, v, NONE));
        asked("serves, of DINNERS", NONE, upTo(1), (x, v) -> x.served(0, v, -2));
        asked("served, k", NONE, from(-2, 3), (x, v) -> x.served(0, 0, v));
        asked("served, k of one DINNER", NONE, from(-2, 0), (x, v) -> x.served(1, 1, v));
        asked("served, a PIECE is not there", NONE, v -> false, (x, v) -> x.served(1, 0, v));
        KIT.of("-2: a PIECE that was told of is not there, there is none such (of any), or for another what.");
        asked("fits, of a HOUSE", NO_SUCH, upTo(1), (x, v) -> x.fits(v, 1, 0));
        asked("fits, of a LOG", NO_SUCH, upTo(1), (x, v) -> x.fits(0, v, 0));
        asked("fits, what", NO_SUCH, v -> v >= 0 && v < 5 || v >= 10 && v < 14, (x, v) -> x.fits(0, 0, v));
        asked("fits, what, if all do", NO_SUCH, v -> v >= 0 && v < 5 || v >= 10 && v < 130, (x, v) -> x.fits(0, 1, v));
        asked("fits, a PIECE is not there", NO_SUCH, v -> false, (x, v) -> x.fits(1, 0, v));
        KIT.of("NONE: not so many FIT, a PIECE is not there, or there is none such (of either).");
        asked("would, of a HOUSE", NONE, upTo(1), (x, v) -> x.would(v, 1, 0, 0));
        asked("would, of a LOG", NONE, upTo(1), (x, v) -> x.would(0, v, 0, 0));
        asked("would, k", NONE, upTo(3), (x, v) -> x.would(0, 0, v, 0));
        asked("would, k, if all FIT", NONE, upTo(119), (x, v) -> x.would(0, 1, v, 0));
        asked("would, of a PIECE", NONE, upTo(2), (x, v) -> x.would(0, 0, 0, v));
        asked("would, a PIECE of the LOG is not there", NONE, v -> false, (x, v) -> x.would(1, 0, 0, v));
        over(ArgumentsTest::great);
        asked("served, k of as many as may be", NONE, from(-2, 7), (x, v) -> x.served(0, 0, v));
        asked("would, of as many PIECES as may be", NONE, upTo(7), (x, v) -> x.would(0, 0, 0, v));
        over(ArgumentsTest::bare);
        asked("served, k without DINNERS", NONE, just(-2, -1), (x, v) -> x.served(0, 0, v));
        asked("fits, what without PIECES", NO_SUCH, v -> v >= 0 && v < 5 || v >= 10 && v < 130,
                (x, v) -> x.fits(0, 0, v));
        asked("would, without PIECES", NONE, v -> false, (x, v) -> x.would(0, 0, 0, v));
    }

    private static void sets() {
        over(ArgumentsTest::full);
        KIT.of("COMES of SECRETS (bits). NONE: there is none such (of any).");
        asked("comes, of a HOUSE", NONE, upTo(1), (x, v) -> x.comes(v, 1));
        asked("comes, of SECRETS", NONE, upTo(15), (x, v) -> x.comes(0, v));
        asked("comes, of one SECRET", NONE, upTo(1), (x, v) -> x.comes(1, v));
        KIT.of("NONE: by none, or there is none such (of either).");
        asked("keep, of a HOUSE", NONE, upTo(1), (x, v) -> x.keep(v, 0, false));
        asked("keep, of a SECRET", NONE, upTo(3), (x, v) -> x.keep(0, v, false));
        asked("find, of a HOUSE", NONE, upTo(0), (x, v) -> x.keep(v, 0, true));
        asked("find, of a SECRET", NONE, just(0, 2), (x, v) -> x.keep(0, v, true));
        KIT.of("HIDDEN, N, or (under) D. NONE: n is above SECRETS, or there is none such (of either).");
        asked("hidden, of a HOUSE", NONE, upTo(1), (x, v) -> x.hidden(v, 0, 1, false));
        asked("hidden, of a SECRET", NONE, upTo(3), (x, v) -> x.hidden(0, v, 1, true));
        asked("hidden, n", NONE, upTo(4), (x, v) -> x.hidden(0, 0, v, false));
        asked("hidden, n, under", NONE, upTo(1), (x, v) -> x.hidden(1, 0, v, true));
        KIT.of("NONE: it does not come, or there is none such (of any).");
        asked("depth, of a HOUSE", NONE, upTo(1), (x, v) -> x.depth(v, 1, 0));
        asked("depth, of SECRETS", NONE, v -> v >= 0 && v < 16 && (v % 2 == 1 || v >= 12), (x, v) -> x.depth(0, v, 0));
        asked("depth, of a SECRET", NONE, upTo(3), (x, v) -> x.depth(0, 15, v));
        KIT.of("SPARE (bits). NONE: there is none such.");
        asked("spare, of a HOUSE", NONE, upTo(1), (x, v) -> x.spare(v));
        KIT.of("LEAKS, N, or (under) D. NONE: n is above SECRETS, or there is none such.");
        asked("leaks, of a HOUSE", NONE, upTo(1), (x, v) -> x.leaks(v, 1, false));
        asked("leaks, n", NONE, upTo(4), (x, v) -> x.leaks(0, v, false));
        asked("leaks, n, under", NONE, upTo(1), (x, v) -> x.leaks(1, v, true));
        KIT.of("CUT: the WEIGHT, or (which) which (bits). NONE: another n, or there is none such.");
        asked("cut, of a HOUSE", NONE, upTo(1), (x, v) -> x.cut(v, 1, false));
        asked("cut, n", NONE, upTo(3), (x, v) -> x.cut(0, v, false));
        asked("cut, n, which", NONE, upTo(3), (x, v) -> x.cut(1, v, true));
        over(ArgumentsTest::great);
        asked("comes, of as many as may be", NONE, upTo(1023), (x, v) -> x.comes(0, v));
        asked("keep, of as many as may be", NONE, upTo(9), (x, v) -> x.keep(0, v, false));
        asked("hidden, n up to 10", NONE, upTo(10), (x, v) -> x.hidden(0, 9, v, true));
        asked("hidden, of as many as may be", NONE, upTo(9), (x, v) -> x.hidden(0, v, 10, false));
        asked("depth, of as many as may be", NONE, v -> v >= 512 && v < 1024, (x, v) -> x.depth(0, v, 9));
        asked("depth, of the last", NONE, upTo(9), (x, v) -> x.depth(0, 1023, v));
        asked("leaks, n up to 10", NONE, upTo(10), (x, v) -> x.leaks(0, v, false));
        over(ArgumentsTest::bare);
        asked("comes, without SECRETS", NONE, just(0), (x, v) -> x.comes(0, v));
        asked("keep, without SECRETS", NONE, v -> false, (x, v) -> x.keep(0, v, false));
        asked("hidden, without SECRETS", NONE, v -> false, (x, v) -> x.hidden(0, v, 0, false));
        asked("depth, without SECRETS", NONE, v -> false, (x, v) -> x.depth(0, v, 0));
        asked("depth, of no SECRET", NONE, v -> false, (x, v) -> x.depth(0, 0, v));
        asked("leaks, n without SECRETS", NONE, just(0), (x, v) -> x.leaks(0, v, true));
        asked("cut, n without SECRETS", NONE, upTo(3), (x, v) -> x.cut(0, v, true));
    }

    private static void thefts() {
        over(ArgumentsTest::full);
        KIT.of("NONE: another n, or there is none such.");
        asked("theft, of a HOUSE", NONE, upTo(1), (x, v) -> x.theft(v, 1, false));
        asked("theft, n", NONE, upTo(8), (x, v) -> x.theft(0, v, false));
        asked("theft, n, which", NONE, upTo(8), (x, v) -> x.theft(1, v, true));
        KIT.of("HEIRS (bits), or (by) by how much. NONE: there is none such.");
        asked("heirs, of a HOUSE", NONE, upTo(1), (x, v) -> x.heirs(v, false));
        asked("heirs, by, of a HOUSE", NONE, upTo(1), (x, v) -> x.heirs(v, true));
        KIT.of("NONE: other numbers, or there is none such.");
        asked("guarded, of a HOUSE", NONE, upTo(1), (x, v) -> x.guarded(v, 1, 1, false));
        asked("guarded, g", NONE, upTo(8), (x, v) -> x.guarded(0, v, 1, false));
        asked("guarded, g, which", NONE, upTo(8), (x, v) -> x.guarded(1, v, 8, true));
        asked("guarded, n", NONE, upTo(8), (x, v) -> x.guarded(0, 1, v, false));
        asked("guarded, n, which", NONE, upTo(8), (x, v) -> x.guarded(1, 8, v, true));
        KIT.of("SPREAD, what 0: all, 1: none, 2: just one (bits). NONE: there is none such, or for another what.");
        asked("spread, of a HOUSE", NONE, upTo(1), (x, v) -> x.spread(v, 0));
        asked("spread, what", NONE, upTo(2), (x, v) -> x.spread(0, v));
        over(ArgumentsTest::bare);
        asked("theft, n without PIECES", NONE, upTo(8), (x, v) -> x.theft(0, v, false));
        asked("guarded, g without PIECES", NONE, upTo(8), (x, v) -> x.guarded(0, v, 8, true));
        asked("guarded, n without PIECES", NONE, upTo(8), (x, v) -> x.guarded(0, 8, v, false));
        asked("spread, what without SECRETS", NONE, upTo(2), (x, v) -> x.spread(0, v));
        asked("heirs, without PIECES", NONE, upTo(0), (x, v) -> x.heirs(v, false));
    }

    private static void evenings() {
        over(ArgumentsTest::full);
        KIT.of("EVENINGS. NONE: a SECRET is too heavy, another WEIGHT, or there is none such.");
        asked("evenings, of a HOUSE", NONE, upTo(1), (x, v) -> x.evenings(v, 30));
        asked("evenings, of a WEIGHT", NONE, from(9, 99), (x, v) -> x.evenings(0, v));
        asked("evenings, of a heavier WEIGHT", NONE, from(30, 99), (x, v) -> x.evenings(1, v));
        KIT.of("EVENING. NONE: as EVENINGS, or there is none such.");
        asked("evening, of a HOUSE", NONE, upTo(1), (x, v) -> x.evening(v, 30, 0));
        asked("evening, of a WEIGHT", NONE, from(9, 99), (x, v) -> x.evening(0, v, 0));
        asked("evening, of a SECRET", NONE, upTo(3), (x, v) -> x.evening(0, 9, v));
        over(ArgumentsTest::great);
        asked("evening, of the last SECRET", NONE, upTo(9), (x, v) -> x.evening(0, 99, v));
        over(ArgumentsTest::bare);
        asked("evenings, without SECRETS", NONE, from(1, 99), (x, v) -> x.evenings(0, v));
        asked("evening, without SECRETS", NONE, v -> false, (x, v) -> x.evening(0, 9, v));
    }

    private static void shines() {
        over(ArgumentsTest::full);
        KIT.of("NONE: no SECRETS, another n, or there is none such (of either).");
        asked("lasting, of a HOUSE", NONE, upTo(1), (x, v) -> x.lasting(v, 0, 0, false));
        asked("lasting, of a PIECE", NONE, upTo(2), (x, v) -> x.lasting(0, v, 0, true));
        asked("lasting, n", NONE, upTo(60), (x, v) -> x.lasting(0, 0, v, false));
        asked("lasting, n, much", NONE, upTo(60), (x, v) -> x.lasting(1, 0, v, true));
        KIT.of("LIT. NONE: another LIGHT, or there is none such.");
        asked("lit, of a HOUSE", NONE, upTo(1), (x, v) -> x.lit(v, 1));
        asked("lit, of a LIGHT", NONE, from(1, 60), (x, v) -> x.lit(0, v));
        KIT.of("NONE: fewer than two PIECES, or there is none such (of either).");
        asked("dusky, of a HOUSE", NONE, upTo(0), (x, v) -> x.dusky(v, 0, false));
        asked("dusky, of a SECRET", NONE, upTo(3), (x, v) -> x.dusky(0, v, true));
        asked("dusky, of a SECRET, who", NONE, upTo(3), (x, v) -> x.dusky(0, v, false));
        asked("dusky, of one PIECE", NONE, v -> false, (x, v) -> x.dusky(1, v, true));
        KIT.of("FITTER: the PIECE and the KIND, or (much) how much. NONE: no PIECES, or there is none such.");
        asked("fitter, of a HOUSE", NONE, upTo(1), (x, v) -> x.fitter(v, false));
        asked("fitter, much, of a HOUSE", NONE, upTo(1), (x, v) -> x.fitter(v, true));
        KIT.of("UNLIKE. NONE: there is none such (of either).");
        asked("unlike, of one", NONE, upTo(1), (x, v) -> x.unlike(v, 0));
        asked("unlike, of the other", NONE, upTo(1), (x, v) -> x.unlike(1, v));
        asked("unlike, of one alone", NONE, upTo(1), (x, v) -> x.unlike(v, v));
        over(ArgumentsTest::great);
        asked("lasting, of the last PIECE", NONE, upTo(7), (x, v) -> x.lasting(0, v, 60, false));
        asked("dusky, of the last SECRET", NONE, upTo(9), (x, v) -> x.dusky(0, v, false));
        over(ArgumentsTest::bare);
        asked("lasting, without PIECES", NONE, v -> false, (x, v) -> x.lasting(0, v, 0, false));
        asked("lit, without SECRETS", NONE, from(1, 60), (x, v) -> x.lit(0, v));
        asked("dusky, without PIECES", NONE, v -> false, (x, v) -> x.dusky(0, v, false));
        asked("fitter, without PIECES", NONE, v -> false, (x, v) -> x.fitter(v, true));
        asked("unlike, of bare HOUSES", NONE, upTo(0), (x, v) -> x.unlike(0, v));
        over(() -> Kit.home("piece love 0;piece love 0;"));
        asked("lasting, without SECRETS", NONE, v -> false, (x, v) -> x.lasting(0, 0, v, true));
        asked("dusky, without SECRETS", NONE, v -> false, (x, v) -> x.dusky(0, v, true));
    }

    private static void tape() {
        over(ArgumentsTest::full);
        KIT.of("NONE if it has not so many, or n is below 0.");
        changed("end", NONE, upTo(20), (x, v) -> x.end(v), untouched);
        KIT.of("NONE, and nothing comes, if there would be more than 600.");
        over(() -> full(true, "hour;steal 3;" + Kit.times(" ", 567)));
        changed("feed, the tape has 580 bytes", NONE, v -> true, (x, v) -> x.feed(v, v, v, v, v), untouched);
        for (int length = 581; length <= 600; length++) {
            String tape = "hour;steal 3;" + Kit.times(" ", length - 13);
            over(() -> full(true, tape));
            changed("feed, the tape has " + length + " bytes", NONE, v -> false, (x, v) -> x.feed(v, v, v, v, v),
                    untouched);
        }
        KIT.of("NONE for another what.");
        over(ArgumentsTest::full);
        asked("fault, what", NONE, upTo(1), (x, v) -> x.fault(v));
        KIT.of("How many there are of a sort. -2 for another one.");
        asked("count, of a sort", NO_SUCH, upTo(3), (x, v) -> x.count(v));
        over(TarnishTurns::new);
        asked("count, of a sort of a new object", NO_SUCH, upTo(3), (x, v) -> x.count(v));
        asked("fault, what of a new object", NONE, just(0), (x, v) -> x.fault(v));
        changed("end, of an empty tape", NONE, just(0), (x, v) -> x.end(v), untouched);
    }

    private static void texts() {
        KIT.of("-2: there is none such, there are as many as may be, or no such sort (no text is read then, FAULT 0).");
        for (String tape : new String[] {"", "hour;steal 3;back 3;", "back 8;", "piece"}) {
            for (boolean faulty : new boolean[] {false, true}) {
                over(() -> full(faulty, tape));
                String refused = look(full(false, ""));
                for (int sort = 0; sort < 4; sort++) {
                    int of = sort;
                    changed("text of sort " + sort + ", at", NO_SUCH, upTo(1), (x, v) -> x.text(of, v), refused);
                }
                for (int at = -2; at < 3; at++) {
                    int where = at;
                    boolean may = at == 0 || at == 1;
                    changed("text at " + at + ", of a sort", NO_SUCH, v -> may && v >= 0 && v < 4,
                            (x, v) -> x.text(v, where), refused);
                }
            }
        }
        over(ArgumentsTest::bare);
        for (int sort = 0; sort < 4; sort++) {
            int of = sort;
            changed("text of sort " + sort + " in the place of one", NO_SUCH, just(-1, 0), (x, v) -> x.text(of, v),
                    untouched);
        }
        over(TarnishTurns::new);
        for (int sort = 0; sort < 4; sort++) {
            int of = sort;
            changed("text of sort " + sort + " of a new object", NO_SUCH, just(-1), (x, v) -> x.text(of, v), untouched);
        }
    }

    private static void images() {
        over(ArgumentsTest::full);
        KIT.of("Image k (0 .. 2) is all that is told (the tape, the FAULT, too), as it is now: true; false for another k.");
        changed("image", 0, upTo(2), (x, v) -> x.image(v) ? 1 : 0, untouched);
        KIT.of("All that is as image k has it: true; false if there is none such.");
        changed("again", 0, just(0, 2), (x, v) -> x.again(v) ? 1 : 0, untouched);
        over(TarnishTurns::new);
        changed("again, of a new object", 0, v -> false, (x, v) -> x.again(v) ? 1 : 0, untouched);
        changed("image, of a new object", 0, upTo(2), (x, v) -> x.image(v) ? 1 : 0, untouched);
    }

    /** Every question that a new object is asked of what it has not. */
    private static void newObject() {
        KIT.of("No HOUSES, MONTHS, DINNERS, LOGS; no images.");
        over(TarnishTurns::new);
        Ask[] none = {(x, v) -> x.house(v, 0), (x, v) -> x.worth(v, 0, 0), (x, v) -> x.till(v, 0), (x, v) -> x.till(0, v),
            (x, v) -> x.served(v, 0, NONE), (x, v) -> x.served(v, 0, -2), (x, v) -> x.comes(v, 0),
            (x, v) -> x.keep(v, 0, false), (x, v) -> x.keep(v, 0, true), (x, v) -> x.theft(v, 0, false),
            (x, v) -> x.theft(v, 0, true), (x, v) -> x.evenings(v, 1), (x, v) -> x.hidden(v, 0, 0, false),
            (x, v) -> x.heirs(v, false), (x, v) -> x.heirs(v, true), (x, v) -> x.lasting(v, 0, 0, false),
            (x, v) -> x.lit(v, 1), (x, v) -> x.dusky(v, 0, true), (x, v) -> x.fitter(v, true), (x, v) -> x.unlike(v, v),
            (x, v) -> x.spread(v, 0), (x, v) -> x.depth(v, 0, 0), (x, v) -> x.spare(v),
            (x, v) -> x.guarded(v, 0, 0, false), (x, v) -> x.evening(v, 1, 0), (x, v) -> x.leaks(v, 0, true),
            (x, v) -> x.cut(v, 0, true), (x, v) -> x.would(v, 0, 0, 0)};
        for (int i = 0; i < none.length; i++) {
            asked("question " + i + " of a new object", NONE, v -> false, none[i]);
        }
        Ask[] noSuch = {(x, v) -> x.deed(v, NONE, 0), (x, v) -> x.state(v, 0, 0, 0), (x, v) -> x.dinner(v, NONE, 0),
            (x, v) -> x.fact(v, NONE, 0), (x, v) -> x.fits(v, 0, 0), (x, v) -> x.drawn(v, 0, 0, 0),
            (x, v) -> x.after(v, 0, 0)};
        for (int i = 0; i < noSuch.length; i++) {
            asked("question -2 " + i + " of a new object", NO_SUCH, v -> false, noSuch[i]);
        }
    }

    public static void main(String[] args) {
        newObject();
        houseDetails();
        rows();
        months();
        tables();
        sets();
        thefts();
        evenings();
        shines();
        tape();
        texts();
        images();
        KIT.finish();
    }
}
