/** Edges of DINNERS, LOGS and images: each sentence of the document about SERVED, FIT, and what images hold. */
public final class EdgesTableTest {
    private static final int NONE = TarnishTurns.NONE;
    private static final Kit KIT = new Kit();

    private static void due(String call, long got, long want) {
        KIT.due(call, got, want);
    }

    /** How many SECRETS, how many DINNERS at most, and the row. */
    private static void served(String house, String dinners, int fewest, int serves, int... row) {
        TarnishTurns x = Kit.with(house, null, dinners, null);
        String call = " by " + house + " " + dinners;
        due("SERVES, asked first," + call, x.served(0, 0, -2), serves);
        due("SERVED" + call, x.served(0, 0, NONE), fewest);
        due("SERVES" + call, x.served(0, 0, -2), serves);
        for (int k = 0; k < row.length; k++) {
            due("SECRET ahead of " + k + call, x.served(0, 0, k), row[k]);
        }
        int many = x.dinner(0, NONE, 0);
        for (int k : new int[] {many, many + 1, 8, -3, Integer.MIN_VALUE, Integer.MAX_VALUE}) {
            due("no DINNER " + k + call, x.served(0, 0, k), NONE);
        }
    }

    private static final String ONE = "piece love 1;secret love 30;";

    private static void lights() {
        KIT.of("it is SERVED, if its PIECE has SHINE of LIGHT or more then");
        served(ONE, "dinner 0 0 60;", 1, 1, 0);
        served(ONE, "dinner 60 0 60;", 1, 1, 0);
        served(ONE, "dinner 0 0 1;", 1, 1, 0);
        served("piece debt 1;secret love 30;", "dinner 0 0 30;", 1, 1, 0);
        served("piece debt 1;secret love 30;", "dinner 0 0 31;", NONE, 0, NONE);
        served("piece debt 1;secret love 30;knows 0 0;", "dinner 0 0 15;", 1, 1, 0);
        served("piece debt 1;secret love 30;knows 0 0;", "dinner 0 0 16;", NONE, 0, NONE);
        served("piece debt 1;secret love 1;knows 0 0;", "dinner 0 0 1;", NONE, 0, NONE);
        KIT.of("hours go by from one DINNER to the next, SHINE wears off as in a MONTH; none has any at first");
        served(ONE, "dinner 0 0 1;dinner 59 0 1;", 1, 2, 0, 10);
        served(ONE, "dinner 0 0 1;dinner 60 0 1;", NONE, 1, NONE, NONE);
        served(ONE, "dinner 1 0 1;dinner 60 0 1;", 1, 2, 0, 10);
        served(ONE, "dinner 0 0 60;dinner 0 0 60;", 1, 2, 0, 10);
        served(ONE, "dinner 0 0 60;dinner 1 0 60;", NONE, 1, NONE, NONE);
        served(ONE, "dinner 0 0 60;dinner 1 0 59;", 1, 2, 0, 10);
        served("piece love 0;secret love 30;", "dinner 0 0 60;dinner 60 0 60;", 1, 2, 0, 10);
        served("piece love 9;secret love 30;", "dinner 0 0 60;dinner 6 0 6;", 1, 2, 0, 10);
        served("piece love 9;secret love 30;", "dinner 0 0 60;dinner 6 0 7;", NONE, 1, NONE, NONE);
        served("piece love 0;", "dinner 0 0 1;", NONE, 0, NONE);
        served("piece love 0;", "dinner 60 0 1;", NONE, 0, NONE);
    }

    private static void tellings() {
        KIT.of("ahead of each one SECRET may be told to its PIECE (each SECRET once at most, nothing else is told)");
        served("piece love 0;piece love 0;secret love 30;", "dinner 0 0 1;dinner 0 1 1;", NONE, 1, NONE, NONE);
        served("piece love 0;piece love 0;secret love 30;secret love 30;", "dinner 0 0 1;dinner 0 1 1;", 2, 2, 0, 1);
        served("piece love 0;piece love 0;secret love 30;secret love 30;", "dinner 0 0 1;dinner 0 1 1;dinner 0 0 1;", NONE, 2,
                NONE, NONE, NONE);
        served("piece love 0;piece love 0;secret love 30;secret love 1;", "dinner 0 0 1;dinner 0 1 60;", 2, 2, 1, 0);
        served("piece love 0;piece love 0;secret love 30;secret love 1;", "dinner 0 0 60;dinner 0 1 60;", NONE, 1, NONE, NONE);
        String eight = Kit.times("piece love 0;", 8) + Kit.times("secret love 1;", 10);
        served(eight, "dinner 0 0 1;dinner 0 1 1;dinner 0 2 1;dinner 0 3 1;dinner 0 4 1;dinner 0 5 1;dinner 0 6 1;"
                + "dinner 0 7 1;", 8, 8, 0, 1, 2, 3, 4, 5, 6, 7);
        served(eight, Kit.times("dinner 0 7 1;", 8), 1, 8, 0, 10, 10, 10, 10, 10, 10, 10);
        KIT.of("the first row of SECRETS by DINNERS, by numbers (10: none is told)");
        String last = "piece love 0;" + Kit.times("secret love 1;", 9) + "secret love 2;";
        served(last, "dinner 0 0 3;", 1, 1, 9);
        served(last, "dinner 0 0 3;dinner 9 0 3;", 1, 2, 9, 10);
        served(last, "dinner 0 0 1;dinner 9 0 1;", 1, 2, 0, 10);
        served(last, "dinner 0 0 1;dinner 9 0 3;", 1, 2, 9, 10);
        String steps = "piece debt 1;secret love 1;secret love 2;secret love 3;";
        served(steps, "dinner 0 0 1;dinner 1 0 1;dinner 2 0 1;", 1, 3, 2, 10, 10);
        served(steps, "dinner 0 0 1;dinner 1 0 1;dinner 3 0 1;", 2, 3, 0, 2, 10);
        served(steps, "dinner 0 0 1;dinner 5 0 1;dinner 10 0 1;", 3, 3, 0, 1, 2);
        served(steps, "dinner 0 0 3;dinner 5 0 2;dinner 10 0 1;", 3, 3, 2, 1, 0);
        served(steps, "dinner 0 0 1;dinner 5 0 1;dinner 10 0 1;dinner 15 0 1;", NONE, 3, NONE, NONE, NONE, NONE);
    }

    private static void fewest() {
        KIT.of("the fewest SECRETS by which all are SERVED");
        served("", "", 0, 0);
        served("piece love 0;", "", 0, 0);
        served(ONE, "", 0, 0);
        KIT.of("SERVES: how many DINNERS, from the first on, one behind the other, can be SERVED at most.");
        served(ONE, "dinner 0 0 1;dinner 1 0 60;dinner 2 0 1;", NONE, 1, NONE, NONE, NONE);
        served(ONE, "dinner 0 0 60;dinner 60 0 60;dinner 60 0 1;", NONE, 1, NONE, NONE, NONE);
        served("piece will 1;secret love 1;", "dinner 0 0 2;dinner 0 0 1;", NONE, 0, NONE, NONE);
        served(ONE, Kit.times("dinner 60 0 60;", 8), 1, 8, 0, 10, 10, 10, 10, 10, 10, 10);
        served(ONE, Kit.times("dinner 0 0 60;", 7) + "dinner 1 0 60;", NONE, 7, NONE, NONE, NONE, NONE, NONE, NONE, NONE,
                NONE);
        KIT.of("SERVED: how many SECRETS (k NONE), or which one is told ahead of DINNER k; k -2: SERVES.");
        TarnishTurns x = Kit.with(ONE, null, "dinner 0 0 60;dinner 59 0 1;dinner 60 0 1;", null);
        int[] asked = {-4, -3, -2, -1, 0, 1, 2, 3, 4};
        int[] short3 = {NONE, NONE, 2, NONE, NONE, NONE, NONE, NONE, NONE};
        int[] whole2 = {NONE, NONE, 2, 1, 0, 10, NONE, NONE, NONE};
        for (int i = 0; i < asked.length; i++) {
            due("not all, k " + asked[i], x.served(0, 0, asked[i]), short3[i]);
        }
        Kit.put(x, "dinner 0 0 60;dinner 59 0 1;");
        x.text(2, 0);
        for (int i = 0; i < asked.length; i++) {
            due("all, k " + asked[i], x.served(0, 0, asked[i]), whole2[i]);
        }
        KIT.of("NONE: not all can be SERVED (but for SERVES), a PIECE is not there, or there is none such (of any).");
        served(ONE, "dinner 0 1 1;", NONE, NONE, NONE);
        served(ONE, "dinner 0 0 1;dinner 0 1 1;", NONE, NONE, NONE, NONE);
        served(ONE, "dinner 0 7 1;dinner 0 0 1;", NONE, NONE, NONE, NONE);
        served("", "dinner 0 0 1;", NONE, NONE, NONE);
    }

    private static TarnishTurns log(String house, String log) {
        return Kit.with(house, null, null, log);
    }

    private static void fits(String house, String log, int... codes) {
        TarnishTurns x = log(house, log);
        String call = " by " + house + " " + log;
        due("how many FIT" + call, x.fits(0, 0, 0), codes.length);
        for (int k = 0; k < codes.length; k++) {
            due("FIT " + k + call, x.fits(0, 0, 10 + k), codes[k]);
        }
        due("behind the last" + call, x.fits(0, 0, 10 + codes.length), -2);
        due("would, behind the last" + call, x.would(0, 0, codes.length, 0), NONE);
    }

    private static void shone() {
        KIT.of("it SHONE for as many hours as it took until it had no SHINE (less by WEAR behind each hour; 60, if more, or if "
                + "WEAR is 0)");
        fits("piece love 1;", "shone 0 60;", 29);
        fits("piece love 1;", "shone 0 59;");
        fits("piece love 1;", "shone 0 58;", 28);
        fits("piece love 1;", "shone 0 30;", 14, 59, 89, 119);
        fits("piece love 1;", "shone 0 1;", 30, 60, 90);
        fits("piece love 1;", "shone 0 2;", 0, 31, 61, 91);
        fits("piece love 1;", "shone 0 0;");
        fits("piece love 0;", "shone 0 59;");
        fits("piece love 0;", "shone 0 0;");
        due("all, without WEAR", log("piece love 0;", "shone 0 60;").fits(0, 0, 0), 120);
        fits("piece will 9;", "shone 0 7;", 117, 118, 119);
        fits("piece will 9;", "shone 0 8;");
        fits("piece will 9;", "shone 0 60;");
        due("up to 9, by WEAR 9", log("piece will 9;", "shone 0 1;").fits(0, 0, 0), 3 * 9 + 4);
        KIT.of("KINDS and WEIGHTS (30 times the KIND, and WEIGHT less 1) FIT, if each FACT is so: how many; the k-th, by "
                + "numbers");
        TarnishTurns all = log("piece love 1;", "");
        due("all", all.fits(0, 0, 0), 120);
        for (int k : new int[] {0, 1, 29, 30, 59, 60, 89, 90, 118, 119}) {
            due("the " + k + "-th", all.fits(0, 0, 10 + k), k);
        }
        due("no 120-th", all.fits(0, 0, 130), -2);
        fits("piece love 1;piece debt 1;", "shone 0 60;shone 1 30;", 29);
        fits("piece love 1;piece debt 1;", "shone 0 60;shone 1 31;");
        fits("piece love 1;piece debt 1;", "shone 0 60;shone 0 60;", 29);
        fits("piece love 1;piece debt 1;", "shone 0 60;shone 0 58;");
        fits("piece love 1;piece debt 1;", Kit.times("shone 1 60;", 7) + "shone 0 30;", 59);
        fits("piece love 1;piece debt 1;", Kit.times("shone 1 60;", 7) + "shone 0 29;");
    }

    /** By 5 hours of each of the first two: love of 9 or of 10, and nothing else. */
    private static final String TWO_FIT = "piece love 4;piece debt 2;piece death 1;";

    private static void sure() {
        KIT.of("SURE of the KIND, of the WEIGHT: it, if it is one in all.");
        TarnishTurns one = log("piece love 1;", "shone 0 60;");
        due("one KIND, the first", one.fits(0, 0, 1), 0);
        due("one WEIGHT, the last", one.fits(0, 0, 2), 30);
        TarnishTurns kind = log("piece will 9;", "shone 0 7;");
        due("one KIND, the last", kind.fits(0, 0, 1), 3);
        due("not one WEIGHT", kind.fits(0, 0, 2), NONE);
        TarnishTurns weight = log("piece love 1;piece debt 1;", "shone 0 1;shone 1 1;");
        due("not one KIND", weight.fits(0, 0, 1), NONE);
        due("one WEIGHT, the first", weight.fits(0, 0, 2), 1);
        TarnishTurns debt = log("piece debt 1;", "shone 0 60;");
        due("one KIND, not the first", debt.fits(0, 0, 1), 1);
        due("one WEIGHT, not the first KIND's", debt.fits(0, 0, 2), 30);
        fits(TWO_FIT, "shone 0 5;shone 1 5;", 8, 9);
        due("two of one KIND", log(TWO_FIT, "shone 0 5;shone 1 5;").fits(0, 0, 1), 0);
        due("two of two WEIGHTS", log(TWO_FIT, "shone 0 5;shone 1 5;").fits(0, 0, 2), NONE);
        fits("piece love 1;piece debt 1;", "shone 0 7;shone 1 7;", 66, 96);
        due("two of two KINDS", log("piece love 1;piece debt 1;", "shone 0 7;shone 1 7;").fits(0, 0, 1), NONE);
        due("two of one WEIGHT", log("piece love 1;piece debt 1;", "shone 0 7;shone 1 7;").fits(0, 0, 2), 7);
        TarnishTurns none = log("piece love 1;", "shone 0 0;");
        due("no KIND", none.fits(0, 0, 1), NONE);
        due("no WEIGHT", none.fits(0, 0, 2), NONE);
        due("all KINDS", log("", "").fits(0, 0, 1), NONE);
        due("all WEIGHTS", log("", "").fits(0, 0, 2), NONE);
        KIT.of("What 0: how many FIT, 1, 2: SURE of the KIND, of the WEIGHT (NONE: not one)");
        due("nothing FITS", log("piece love 0;", "shone 0 1;").fits(0, 0, 0), 0);
        due("all FIT", log("piece love 0;", "shone 0 60;").fits(0, 0, 0), 120);
        for (int what = 1; what < 3; what++) {
            due("nothing FITS, " + what, log("piece love 0;", "shone 0 1;").fits(0, 0, what), NONE);
            due("all FIT, " + what, log("piece love 0;", "shone 0 60;").fits(0, 0, what), NONE);
        }
        KIT.of("10 + k: the k-th.");
        fits("piece love 1;", "shone 0 60;", 29);
        due("below the first", one.fits(0, 0, 9), -2);
        KIT.of("WHICH: SECRETS of the HOUSE that FIT so (bits).");
        String house = "piece love 1;" + Kit.times("secret love 30;", 9) + "secret debt 30;";
        due("nine of ten", log(house, "shone 0 60;").fits(0, 0, 3), 511);
        due("the last", log(house, "shone 0 30;").fits(0, 0, 3), 512);
        due("all", log(house, "").fits(0, 0, 3), 1023);
        due("none", log(house, "shone 0 1;").fits(0, 0, 3), 0);
        due("no SECRETS", log("piece love 1;", "").fits(0, 0, 3), 0);
        due("known or not, told anew", log("piece love 1;secret love 30;knows 0 0;", "shone 0 60;").fits(0, 0, 3), 1);
    }

    private static void asks() {
        KIT.of("ASK: the PIECE such that of those (KINDS and WEIGHTS) that FIT the greatest number by which it would shine as "
                + "long is least, of several the least.");
        due("the one that wears off", log("piece love 0;piece love 1;", "").fits(0, 0, 4), 1);
        due("of several the least", log("piece love 0;piece love 1;piece debt 1;", "").fits(0, 0, 4), 1);
        due("the last", log(Kit.times("piece love 0;", 7) + "piece will 9;", "").fits(0, 0, 4), 7);
        due("all alike", log(Kit.times("piece love 0;", 8), "").fits(0, 0, 4), 0);
        due("the one that tells two apart", log(TWO_FIT, "shone 0 5;shone 1 5;").fits(0, 0, 4), 2);
        due("one FITS", log("piece love 1;piece love 2;", "shone 0 60;").fits(0, 0, 4), 0);
        due("one PIECE", log("piece love 0;", "").fits(0, 0, 4), 0);
        KIT.of("4: ASK (NONE: nothing FITS, no PIECES)");
        due("nothing FITS", log("piece love 1;", "shone 0 0;").fits(0, 0, 4), NONE);
        due("no PIECES", log("", "").fits(0, 0, 4), NONE);
        due("no PIECES, but SECRETS", log("secret love 9;", "").fits(0, 0, 4), NONE);
        KIT.of("-2: a PIECE that was told of is not there, there is none such (of any), or for another what.");
        for (int what : new int[] {0, 1, 2, 3, 4, 10, 129}) {
            due("not there, " + what, log("piece love 1;", "shone 1 1;").fits(0, 0, what), -2);
            due("none is there, " + what, log("", "shone 0 1;").fits(0, 0, what), -2);
            due("the last is not there, " + what, log(Kit.times("piece love 1;", 7), "shone 0 1;shone 7 1;")
                    .fits(0, 0, what), -2);
        }
        KIT.of("WOULD of k, a PIECE: how long it would shine by the k-th that FITS.");
        TarnishTurns x = log("piece love 1;piece debt 0;piece debt 9;piece love 7;", "shone 0 30;");
        int[][] hours = {{30, 60, 2, 5}, {30, 60, 7, 5}, {30, 60, 4, 5}, {30, 60, 4, 5}};
        for (int k = 0; k < 4; k++) {
            for (int p = 0; p < 4; p++) {
                due("WOULD of " + k + ", " + p, x.would(0, 0, k, p), hours[k][p]);
            }
        }
        due("not so many", x.would(0, 0, 4, 0), NONE);
        due("not there", x.would(0, 0, 0, 4), NONE);
        TarnishTurns all = log("piece love 1;", "");
        due("the first of 120", all.would(0, 0, 0, 0), 2);
        due("the last of 120", all.would(0, 0, 119, 0), 30);
        due("of 60 hours", all.would(0, 0, 29, 0), 60);
        due("no 120-th", all.would(0, 0, 120, 0), NONE);
        due("nothing FITS", log("piece love 1;", "shone 0 0;").would(0, 0, 0, 0), NONE);
        due("a PIECE of the LOG is not there", log("piece love 1;", "shone 1 1;").would(0, 0, 0, 0), NONE);
        due("known is no matter", log("piece love 1;secret love 30;knows 0 0;", "").would(0, 0, 29, 0), 60);
    }

    /** What a fresh image holds is told by one HOUSE's WEAR, FAULT and tape. */
    private static TarnishTurns marked(int mark) {
        TarnishTurns x = Kit.with("piece love " + mark + ";", Kit.times("hour;", mark), Kit.times("dinner 1 1 1;", mark),
                Kit.times("shone 1 1;", mark));
        Kit.put(x, Kit.times(" ", mark) + "x");
        x.text(0, NONE);
        Kit.put(x, Kit.times("hour;", mark));
        return x;
    }

    private static void remark(TarnishTurns x, int mark) {
        String[] texts = {"piece love " + mark + ";", Kit.times("hour;", mark), Kit.times("dinner 1 1 1;", mark),
            Kit.times("shone 1 1;", mark)};
        for (int sort = 0; sort < 4; sort++) {
            Kit.put(x, texts[sort]);
            x.text(sort, 0);
        }
        Kit.put(x, Kit.times(" ", mark) + "x");
        x.text(0, 0);
        Kit.put(x, Kit.times("hour;", mark));
    }

    private static void hasMark(String call, TarnishTurns x, int mark) {
        due(call + ", the HOUSE", x.house(0, 20), mark);
        due(call + ", the MONTH", x.deed(0, NONE, 0), mark);
        due(call + ", the DINNERS", x.dinner(0, NONE, 0), mark);
        due(call + ", the LOG", x.fact(0, NONE, 0), mark);
        due(call + ", the FAULT", x.fault(0), 1);
        due(call + ", its place", x.fault(1), mark);
        due(call + ", the tape's end", x.end(5 * mark + 1), NONE);
        due(call + ", the tape", x.end(5 * mark), 5 * mark);
        for (int sort = 0; sort < 4; sort++) {
            due(call + ", count " + sort, x.count(sort), 1);
        }
    }

    private static void images() {
        KIT.of("Image k (0 .. 2) is all that is told (the tape, the FAULT, too), as it is now: true; false for another k.");
        TarnishTurns x = marked(1);
        for (int k = 0; k < 3; k++) {
            remark(x, k + 1);
            KIT.due("image " + k, x.image(k), true);
            hasMark("image " + k + " changes nothing", x, k + 1);
        }
        remark(x, 5);
        for (int k : new int[] {Integer.MIN_VALUE, -1, 3, 4, Integer.MAX_VALUE}) {
            KIT.due("image " + k, x.image(k), false);
            KIT.due("again " + k, x.again(k), false);
        }
        hasMark("refused", x, 5);
        KIT.of("All that is as image k has it: true; false if there is none such.");
        for (int k : new int[] {0, 1, 2, 1, 0}) {
            KIT.due("again " + k, x.again(k), true);
            hasMark("again " + k, x, k + 1);
        }
        remark(x, 7);
        KIT.due("image 1 anew", x.image(1), true);
        KIT.due("again 2", x.again(2), true);
        hasMark("again 2 behind image 1", x, 3);
        KIT.due("again 1", x.again(1), true);
        hasMark("again 1, the new one", x, 7);
        remark(x, 4);
        KIT.due("again 1, once more", x.again(1), true);
        hasMark("an image is not changed by what is told later", x, 7);
        due("the tape's bytes", x.text(1, NONE), 1);
        due("the tape's DEEDS", x.deed(1, NONE, 0), 7);
    }

    private static final String OTHER = "piece will 9;piece death 8;piece debt 7;piece love 6;secret will 29;secret will 28;"
            + "secret love 27;secret death 26;secret debt 25;knows 3 4;knows 2 3;knows 1 2;link 4 3 0;link 1 2 3;link 4 0 1;";
    private static final String OTHER_MONTH = "back 7;steal 6;both 9 4 5;tell 8 7;hour;polish 2;hour;";
    private static final String OTHER_DINNERS = "dinner 7 6 5;dinner 8 7 60;dinner 60 5 4;dinner 60 1 2;";
    private static final String OTHER_LOG = "shone 7 59;shone 6 58;shone 5 57;";

    /** Every number of the texts of all sorts in a place. */
    private static String numbers(TarnishTurns x, int at) {
        StringBuilder all = new StringBuilder();
        for (int what = 0; what < 90; what = what == 2 ? 10 : what % 10 == 4 ? what + 6 : what + 1) {
            all.append(x.house(at, what)).append(' ');
        }
        for (int k = 0; k < 7; k++) {
            for (int what = 0; what < 4; what++) {
                all.append(x.deed(at, k, what)).append(' ');
            }
        }
        for (int k = 0; k < 4; k++) {
            for (int what = 0; what < 3; what++) {
                all.append(x.dinner(at, k, what)).append(' ').append(x.fact(at, k, what)).append(' ');
            }
        }
        return all.toString();
    }

    /** An image has each number of each text: all are other ones when it is there again. */
    private static void wholeImages() {
        KIT.of("Image k (0 .. 2) is all that is told (the tape, the FAULT, too), as it is now: true; false for another k.");
        String[] first = {Kit.SILVER, "tell 0 1;both 2 3 4;polish 5;", "dinner 0 1 2;", "shone 1 2;shone 3 4;"};
        String[] other = {OTHER, OTHER_MONTH, OTHER_DINNERS, OTHER_LOG};
        for (int at = 0; at < 2; at++) {
            for (int k = 0; k < 3; k++) {
                String[] texts = k == 1 ? other : first;
                String[] later = k == 1 ? first : other;
                TarnishTurns x = Kit.with(texts[0], texts[1], texts[2], texts[3]);
                TarnishTurns y = Kit.with(texts[0], texts[1], texts[2], texts[3]);
                for (int sort = 0; sort < 4; sort++) {
                    Kit.tell(x, sort, texts[sort]);
                    Kit.tell(y, sort, texts[sort]);
                }
                x.image(k);
                for (int sort = 0; sort < 4; sort++) {
                    Kit.put(x, later[sort]);
                    due("another text of sort " + sort, x.text(sort, at), at);
                }
                x.again(k);
                KIT.due("all of place " + at + ", image " + k, numbers(x, at).equals(numbers(y, at)), true);
            }
        }
    }

    private static void emptyImages() {
        KIT.of("All that is as image k has it: true; false if there is none such.");
        TarnishTurns x = new TarnishTurns();
        for (int k = 0; k < 3; k++) {
            KIT.due("none yet " + k, x.again(k), false);
        }
        KIT.due("image of nothing", x.image(1), true);
        KIT.due("none still 0", x.again(0), false);
        KIT.due("none still 2", x.again(2), false);
        for (int sort = 0; sort < 4; sort++) {
            Kit.tell(x, sort, "");
            Kit.tell(x, sort, "");
        }
        Kit.tell(x, 1, "x");
        Kit.put(x, Kit.times("hour;", 120));
        KIT.due("again nothing", x.again(1), true);
        for (int sort = 0; sort < 4; sort++) {
            due("nothing of sort " + sort, x.count(sort), 0);
        }
        due("no FAULT", x.fault(0), 0);
        due("no place", x.fault(1), NONE);
        due("no tape", x.end(1), NONE);
        due("a further one is the first", x.text(2, NONE), 0);
        Kit.put(x, Kit.times("hour;", 120));
        KIT.due("image of a full tape", x.image(2), true);
        Kit.put(x, "");
        KIT.due("again a full tape", x.again(2), true);
        due("no more comes", x.feed(0, 0, 0, 0, 0), NONE);
        due("all 600", x.end(600), 600);
        due("text of all 600", x.text(1, NONE), NONE);
        due("its FAULT", x.fault(0), 3);
        due("its place", x.fault(1), 200);
    }

    public static void main(String[] args) {
        lights();
        tellings();
        fewest();
        shone();
        sure();
        asks();
        images();
        wholeImages();
        emptyImages();
        KIT.finish();
    }
}
