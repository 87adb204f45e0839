/**
 * 'What it is': each clause of the document's first sentence by one house, worked out by hand, and an object as long as
 * it is used.
 */
public final class StoryTest {
    private static final int NONE = TarnishTurns.NONE;
    private static final Kit KIT = new Kit();

    private static final String HOUSE = "piece love 2;\npiece debt 0;\npiece death 5;\nsecret love 6;\nsecret death 10;\n"
            + "secret will 7;\nsecret debt 1;\nknows 0 2;\nknows 2 1;\nknows 2 3;\nlink 0 1 2;\nlink 2 3 1;\n";
    private static final String MONTH = "tell 0 0; hour; polish 2; both 1 1 2; hour; steal 1; tell 0 0; back 1; tell 3 1; hour;";
    private static final String DINNERS = "dinner 0 0 10;dinner 1 0 8;dinner 3 2 6;dinner 9 1 7;dinner 20 1 2;";
    private static final String LOG = "shone 0 4;shone 1 60;shone 2 2;";

    private static final int USED = 512;

    private static void due(String call, long got, long want) {
        KIT.due(call, got, want);
    }

    private static TarnishTurns told() {
        return Kit.with(HOUSE, MONTH, DINNERS, LOG);
    }

    private static void house() {
        KIT.of("Tarnish by turns: houses told as texts, pieces of silver by taste and wear, secrets of kinds and weights, who "
                + "knows which, which two make a third one known;");
        TarnishTurns x = told();
        int[][] rows = {{10, 0, 1, 2}, {20, 2, 0, 5}, {30, 4, 0, 10}, {40, 0, 2, 3, 1}, {50, 6, 10, 7, 1}, {60, 0, 2},
            {70, 1, 3}, {80, 2, 1}};
        due("pieces", x.house(0, 0), 3);
        due("secrets", x.house(0, 1), 4);
        due("links", x.house(0, 2), 2);
        for (int[] row : rows) {
            for (int i = 1; i < row.length; i++) {
                due("house " + (row[0] + i - 1), x.house(0, row[0] + i - 1), row[i]);
            }
        }
        int[][] worths = {{12, 6, 6}, {10, 10, 10}, {3, 7, 7}, {1, 2, 0}};
        for (int s = 0; s < 4; s++) {
            for (int p = 0; p < 3; p++) {
                due("worth of " + s + " to " + p, x.worth(0, s, p), worths[s][p]);
            }
        }
    }

    private static void month() {
        KIT.of("months told as texts, deed by deed, what is told to which piece, to two at once, polished, stolen, how it wears "
                + "off by hours, which one is bright;");
        TarnishTurns x = told();
        int[] deeds = {0, 5, 2, 1, 5, 3, 0, 4, 0, 5};
        due("deeds", x.deed(0, NONE, 0), 10);
        due("till", x.till(0, 0), 10);
        int[][] states = {
            // hour, bright, dusk, stolen, given, shine of each, gloss of the last, what each knows
            {0, NONE, 0, 0, 0, 0, 0, 0, 0, 4, 0, 10}, {0, 0, 0, 0, 12, 12, 0, 0, 0, 5, 0, 10},
            {1, 0, 0, 0, 12, 10, 0, 0, 0, 5, 0, 10}, {1, 0, 1, 0, 12, 10, 0, 0, 5, 5, 0, 10},
            {1, 2, 1, 0, 22, 0, 5, 5, 5, 5, 2, 10}, {2, 1, 0, 0, 22, 0, 5, 0, 0, 5, 2, 10},
            {2, NONE, 0, 2, 22, 0, 0, 0, 0, 5, 2, 10}, {2, 0, 0, 2, 28, 6, 0, 0, 0, 5, 2, 10},
            {2, 0, 0, 0, 28, 6, 0, 0, 0, 5, 2, 10}, {2, 1, 0, 0, 30, 0, 2, 0, 0, 5, 10, 10},
            {3, 1, 0, 0, 30, 0, 2, 0, 0, 5, 10, 10}};
        int[] whats = {0, 1, 2, 3, 4, 10, 11, 12, 22, 30, 31, 32};
        for (int n = 0; n <= 10; n++) {
            due("deed " + n, n == 10 ? NONE : x.deed(0, n, 0), n == 10 ? NONE : deeds[n]);
            for (int i = 0; i < whats.length; i++) {
                due("state " + n + ", what " + whats[i], x.state(0, 0, n, whats[i]), states[n][i]);
            }
        }
        int[] after = {0, 2, 3, 12};
        for (int what = 0; what < 4; what++) {
            due("after, " + what, x.after(0, 0, what), after[what]);
        }
    }

    private static void dinners() {
        KIT.of("dinners told as texts, the fewest secrets by which told pieces are bright at told hours;");
        TarnishTurns x = told();
        int[] row = {0, 10, 1, 2, 10};
        due("how many secrets", x.served(0, 0, NONE), 3);
        due("how many dinners", x.served(0, 0, -2), 5);
        for (int k = 0; k < 5; k++) {
            due("ahead of dinner " + k, x.served(0, 0, k), row[k]);
        }
        int[][] dinners = {{0, 0, 10}, {1, 0, 8}, {3, 2, 6}, {9, 1, 7}, {20, 1, 2}};
        for (int k = 0; k < 5; k++) {
            for (int what = 0; what < 3; what++) {
                due("dinner " + k + ", " + what, x.dinner(0, k, what), dinners[k][what]);
            }
        }
    }

    private static void log() {
        KIT.of("logs told as texts, how long pieces shone, of which kind, how heavy the secret was, which piece to ask;");
        TarnishTurns x = told();
        int[] codes = {36, 37, 96, 97};
        int[] looks = {4, NONE, NONE, 4, 0};
        for (int what = 0; what < 5; what++) {
            due("fits, " + what, x.fits(0, 0, what), looks[what]);
        }
        int[][] would = {{4, 60, 2}, {4, 60, 2}, {4, 60, 2}, {4, 60, 2}};
        for (int k = 0; k < 4; k++) {
            due("the " + k + "-th", x.fits(0, 0, 10 + k), codes[k]);
            for (int p = 0; p < 3; p++) {
                due("would of " + k + ", " + p, x.would(0, 0, k, p), would[k][p]);
            }
        }
        due("facts", x.fact(0, NONE, 0), 3);
        due("the last fact's piece", x.fact(0, 2, 0), 2);
        due("how long it shone", x.fact(0, 1, 1), 60);
    }

    private static void known() {
        KIT.of("what comes of what is known, which secrets to keep, what thieves get, evenings of telling, what slips;");
        TarnishTurns x = told();
        int[] comes = {0, 1, 2, 7, 4, 5, 6, 7, 8, 9, 10, 15, 14, 15, 14, 15};
        for (int bits = 0; bits < 16; bits++) {
            due("comes of " + bits, x.comes(0, bits), comes[bits]);
        }
        int[] keep = {1, 6, 5, 8};
        int[] find = {NONE, 12, 3, NONE};
        int[] evening = {0, 1, 2, 0};
        for (int s = 0; s < 4; s++) {
            due("keep " + s, x.keep(0, s, false), keep[s]);
            due("find " + s, x.keep(0, s, true), find[s]);
            due("evening of " + s, x.evening(0, 12, s), evening[s]);
        }
        due("evenings", x.evenings(0, 12), 3);
        int[][] theft = {{0, 0}, {11, 4}, {18, 5}, {18, 5}};
        for (int n = 0; n < 4; n++) {
            due("theft of " + n, x.theft(0, n, false), theft[n][0]);
            due("theft of " + n + ", which", x.theft(0, n, true), theft[n][1]);
        }
        due("guarded", x.guarded(0, 1, 1, false), 7);
        due("guarded, which", x.guarded(0, 1, 1, true), 4);
        due("hidden, N", x.hidden(0, 2, 2, false), 1);
        due("hidden, D", x.hidden(0, 2, 2, true), 3);
        due("leaks, N", x.leaks(0, 2, false), 89);
        due("leaks, D", x.leaks(0, 2, true), 6);
        due("heirs", x.heirs(0, false), 1);
        due("heirs, by", x.heirs(0, true), 4);
    }

    private static void seed() {
        KIT.of("months by a seed.");
        // By seed 0 come 0, 54236, 42756, 54885, 3498, 49695, 16045: tell 0 0; hour; both 3 1 2.
        TarnishTurns x = told();
        int[] whats = {0, 1, 4, 10, 11, 12, 30, 31, 32};
        int[][] wants = {{0, NONE, 0, 0, 0, 0, 4, 0, 10}, {0, 0, 12, 12, 0, 0, 5, 0, 10}, {1, 0, 12, 10, 0, 0, 5, 0, 10},
            {1, 1, 13, 0, 1, 0, 5, 8, 10}};
        for (int n = 0; n < 4; n++) {
            for (int i = 0; i < whats.length; i++) {
                due("drawn " + n + ", what " + whats[i], x.drawn(0, 0, n, whats[i]), wants[n][i]);
            }
        }
    }

    /** A question, or a change with its answer, that is to be answered alike as often as it is asked. */
    private interface Call {
        long of(TarnishTurns x);
    }

    private static final Call[] QUESTIONS = {x -> x.end(0), x -> x.fault(1), x -> x.house(0, 54), x -> x.worth(0, 0, 0),
        x -> x.deed(0, 3, 3), x -> x.till(0, 0), x -> x.state(0, 0, 10, 4), x -> x.dinner(0, 4, 0), x -> x.served(0, 0, 3),
        x -> x.served(0, 0, -2), x -> x.comes(0, 12), x -> x.keep(0, 2, false), x -> x.keep(0, 1, true),
        x -> x.theft(0, 2, true), x -> x.evenings(0, 12), x -> x.hidden(0, 2, 2, true), x -> x.heirs(0, true),
        x -> x.fact(0, 2, 1), x -> x.fits(0, 0, 13), x -> x.fits(0, 0, 4), x -> x.drawn(0, 0, 60, 30),
        x -> x.lasting(0, 2, 1, true), x -> x.lit(0, 3), x -> x.dusky(0, 0, true), x -> x.fitter(0, false),
        x -> x.unlike(0, 0), x -> x.spread(0, 2), x -> x.depth(0, 13, 1), x -> x.spare(0), x -> x.guarded(0, 1, 2, true),
        x -> x.evening(0, 12, 2), x -> x.leaks(0, 2, false), x -> x.cut(0, 2, true), x -> x.after(0, 0, 0),
        x -> x.would(0, 0, 3, 0), x -> x.count(0), x -> x.image(2) ? 1 : 0, x -> x.again(0) ? 1 : 0,
        x -> x.text(1, 1), x -> x.text(0, 2)};

    /** How many calls Kit.tell needs for a text. */
    private static int callsFor(String text) {
        return 2 + (text.length() + 19) / 20 + 1;
    }

    private static void used() {
        KIT.of("An object is used for at most 512 calls after it has been made; what later calls answer is free.");
        int made = 0;
        for (String text : new String[] {HOUSE, MONTH, DINNERS, LOG}) {
            made += callsFor(text);
        }
        for (int q = 0; q < QUESTIONS.length; q++) {
            TarnishTurns x = told();
            long first = QUESTIONS[q].of(x);
            for (int calls = made + 2; calls <= USED; calls++) {
                due("question " + q + " as call " + calls, QUESTIONS[q].of(x), first);
            }
        }
        TarnishTurns turns = told();
        long[] firsts = new long[QUESTIONS.length];
        for (int q = 0; q < QUESTIONS.length; q++) {
            firsts[q] = QUESTIONS[q].of(told());
        }
        for (int calls = made + 1; calls <= USED; calls++) {
            int q = calls * 7 % QUESTIONS.length;
            // again(0) has no image in either; image(2) and the rest change nothing that is asked here.
            due("question " + q + " by turns as call " + calls, QUESTIONS[q].of(turns), firsts[q]);
        }
    }

    private static void usedForTexts() {
        TarnishTurns x = new TarnishTurns();
        due("a month", x.text(1, NONE), 0);
        int blanks = 0x20202020;
        for (int calls = 2; calls + 3 <= USED; calls += 4) {
            int deeds = 1 + calls / 4 % 4;
            due("feed as call " + calls, x.feed(0x686f7572, 0x3b686f75, 0x723b686f, 0x75723b68, 0x6f75723b), 20);
            due("end as call " + (calls + 1), x.end(5 * deeds), 5 * deeds);
            due("text as call " + (calls + 2), x.text(1, 0), 0);
            due("deeds as call " + (calls + 3), x.deed(0, NONE, 0), deeds);
        }
        TarnishTurns y = new TarnishTurns();
        for (int calls = 1; calls + 5 <= USED; calls += 6) {
            due("feed as call " + calls, y.feed(blanks, blanks, blanks, blanks, blanks), 20);
            KIT.due("image as call " + (calls + 1), y.image(calls % 3), true);
            due("text as call " + (calls + 2), y.text(3, NONE), 0);
            KIT.due("again as call " + (calls + 3), y.again(calls % 3), true);
            due("the tape as call " + (calls + 4), y.end(20), 20);
            due("end as call " + (calls + 5), y.end(0), 0);
        }
        TarnishTurns z = new TarnishTurns();
        for (int calls = 1; calls <= USED; calls++) {
            due("feed alone as call " + calls, z.feed(blanks, blanks, blanks, blanks, blanks), calls <= 30 ? 20 * calls : NONE);
        }
    }

    public static void main(String[] args) {
        house();
        month();
        dinners();
        log();
        known();
        seed();
        used();
        usedForTexts();
        KIT.finish();
    }
}
