/** Each promise by examples that were worked out by hand from the document: ordinary, edges, wrong inputs. */
public final class PromisesTest {
    private static final int NONE = TarnishTurns.NONE;
    private static final int LEAST = Integer.MIN_VALUE;
    private static final int MOST = Integer.MAX_VALUE;
    private static final Kit KIT = new Kit();

    private static final String MONTH = "tell 0 0;hour;polish 1;both 2 1 2;hour;steal 2;tell 3 0;back 2;tell 3 2;"
            + "hour;tell 4 0;";
    private static final String DINNERS = "dinner 0 0 8;dinner 1 0 8;dinner 1 2 5;dinner 5 2 6;";
    private static final String LOG = "shone 0 3;shone 1 2;";

    private static void due(String call, long got, long want) {
        KIT.due(call, got, want);
    }

    private static void due(String call, boolean got, boolean want) {
        KIT.due(call, got, want);
    }

    private static TarnishTurns silver() {
        return Kit.with(Kit.SILVER, MONTH, DINNERS, LOG);
    }

    private static TarnishTurns home(String house) {
        return Kit.home(house);
    }

    private static String times(String line, int n) {
        return Kit.times(line, n);
    }

    private static void promise1() {
        TarnishTurns x = new TarnishTurns();
        for (int sort = 0; sort < 4; sort++) {
            due("1 count " + sort, x.count(sort), 0);
        }
        for (int k = 0; k < 3; k++) {
            due("1 again " + k, x.again(k), false);
        }
        due("1 tape", x.end(1), NONE);
        due("1 fault", x.fault(0), 0);
        due("1 place", x.fault(1), NONE);
        due("1 house", x.house(0, 0), NONE);
    }

    private static void promise2() {
        TarnishTurns x = new TarnishTurns();
        int blanks = 0x20202020;
        for (int k = 1; k <= 30; k++) {
            due("2 feed " + k, x.feed(blanks, blanks, blanks, blanks, blanks), 20 * k);
        }
        due("2 full", x.feed(blanks, blanks, blanks, blanks, blanks), NONE);
        due("2 still full", x.end(600), 600);
        due("2 cut", x.end(581), 581);
        due("2 no room for part", x.feed(blanks, blanks, blanks, blanks, blanks), NONE);
        due("2 nothing came", x.end(582), NONE);
        due("2 cut to fit", x.end(580), 580);
        due("2 fits", x.feed(blanks, blanks, blanks, blanks, blanks), 600);
        x.end(0);
        // 'hour;steal 7;back 7;': highest byte first
        due("2 bytes", x.feed(0x686f7572, 0x3b737465, 0x616c2037, 0x3b626163, 0x6b20373b), 20);
        due("2 read", x.text(1, NONE), 0);
        due("2 deeds", x.deed(0, NONE, 0), 3);
        due("2 last", x.deed(0, 2, 1), 7);
        due("2 high bytes", x.feed(-1, LEAST, MOST, 0, 1), 20);
        due("2 fault", x.text(1, NONE), NONE);
        due("2 its place", x.fault(1), 0);
    }

    private static void promise3() {
        TarnishTurns x = new TarnishTurns();
        due("3 none yet", x.end(0), 0);
        due("3 not so many", x.end(1), NONE);
        Kit.put(x, "hour;hour;");
        due("3 more than there are", x.end(11), NONE);
        due("3 below", x.end(-1), NONE);
        due("3 least", x.end(LEAST), NONE);
        due("3 most", x.end(MOST), NONE);
        due("3 same", x.end(10), 10);
        due("3 fewer", x.end(5), 5);
        due("3 gone", x.end(10), NONE);
        due("3 text", x.text(1, NONE), 0);
        due("3 one deed", x.deed(0, NONE, 0), 1);
    }

    private static void promise4() {
        TarnishTurns x = new TarnishTurns();
        for (int sort = 0; sort < 4; sort++) {
            due("4 none such yet", x.text(sort, 0), -2);
            due("4 empty", x.text(sort, NONE), 0);
            due("4 second", x.text(sort, NONE), 1);
            due("4 as many as may be", x.text(sort, NONE), -2);
            due("4 not there", x.text(sort, 2), -2);
            due("4 below", x.text(sort, -2), -2);
            due("4 in place", x.text(sort, 1), 1);
            due("4 in the first's place", x.text(sort, 0), 0);
            due("4 count", x.count(sort), 2);
        }
        Kit.put(x, "hour;");
        due("4 in the place of one", x.text(1, 1), 1);
        due("4 the tape is empty then", x.end(1), NONE);
        due("4 the other stays", x.deed(0, NONE, 0), 0);
        due("4 this one is new", x.deed(1, NONE, 0), 1);
        Kit.put(x, "hour;hour");
        due("4 a fault", x.text(1, 1), NONE);
        due("4 taken all the same", x.end(1), NONE);
        due("4 the old one stays", x.deed(1, NONE, 0), 1);
        Kit.put(x, "back 1;");
        due("4 -2 makes fault 0", x.text(1, 2), -2);
        due("4 fault 0", x.fault(0), 0);
        due("4 no place", x.fault(1), NONE);
        due("4 the older one stays, too", x.deed(1, NONE, 0), 1);
        for (int sort = 0; sort < 4; sort++) {
            refused(x, sort, NONE);
            refused(x, sort, 2);
            refused(x, sort, -2);
            refused(x, sort, MOST);
            refused(x, sort, LEAST);
            refused(new TarnishTurns(), sort, 0);
        }
        for (int at = -2; at < 3; at++) {
            refused(x, 4, at);
            refused(x, -1, at);
            refused(x, MOST, at);
            refused(x, LEAST, at);
        }
        due("4 an empty tape's text", x.text(1, 1), 1);
        due("4 nothing was on it", x.deed(1, NONE, 0), 0);
    }

    /** A text() that answers -2 takes the tape, faulty or not, and says nothing of its FAULT. */
    private static void refused(TarnishTurns x, int sort, int at) {
        String call = "4 text " + sort + " " + at;
        for (String text : new String[] {"", "hour;", "no text;"}) {
            Kit.put(x, text);
            due(call + " refused", x.text(sort, at), -2);
            due(call + " fault", x.fault(0), 0);
            due(call + " place", x.fault(1), NONE);
            due(call + " has taken the tape", x.end(1), NONE);
            due(call + " feed behind it", x.feed(0, 0, 0, 0, 0), 20);
            x.end(0);
        }
    }

    private static void faulty(int sort, String text, int fault, int place) {
        TarnishTurns x = new TarnishTurns();
        due("5 text " + text, Kit.tell(x, sort, text), fault == 0 ? 0 : NONE);
        due("5 fault of " + text, x.fault(0), fault);
        due("5 place of " + text, x.fault(1), place);
        due("5 count behind " + text, x.count(sort), fault == 0 ? 1 : 0);
    }

    private static void promise5() {
        faulty(0, "", 0, NONE);
        faulty(0, "  \n ", 0, NONE);
        faulty(0, "piece\nlove2;\n", 0, NONE);
        faulty(0, "piece love 09;", 0, NONE);
        faulty(0, "piece love 2", 1, 12);
        faulty(0, "piece love 2  ", 1, 14);
        faulty(0, "piece", 1, 5);
        faulty(0, "piece 1;", 1, 6);
        faulty(0, "piece love 010;", 1, 11);
        faulty(0, "piece lover 1;", 1, 6);
        faulty(0, "pieces love 1;", 1, 0);
        faulty(0, "Piece love 1;", 1, 0);
        faulty(0, "piecE love 1;", 1, 0);
        faulty(0, "piece love\t1;", 1, 10);
        faulty(0, "piece love -1;", 1, 11);
        faulty(0, "piece love 1;;", 1, 13);
        faulty(0, "piece love 1 1;", 1, 13);
        faulty(0, "tell 0 0;", 1, 0);
        faulty(0, "piece love 10;", 2, 11);
        faulty(0, "secret debt 0;", 2, 12);
        faulty(0, "secret will 31;", 2, 12);
        faulty(0, "secret will 30;", 0, NONE);
        faulty(0, "knows 8 0;", 2, 6);
        faulty(0, "knows 0 10;", 2, 8);
        faulty(0, "knows 0 0;", 4, 10);
        faulty(0, "knows 0 0; \n", 4, 12);
        faulty(0, "knows 0 0;piece love 0;secret love 1;knows 0 0;", 0, NONE);
        faulty(0, "piece love 0;knows 0 0;", 4, 23);
        faulty(0, "secret love 1;knows 0 0;", 4, 24);
        faulty(0, "link 0 1 2;secret love 1;secret love 1;", 4, 39);
        faulty(0, "link 0 1 2;secret love 1;secret love 1;secret love 1;", 0, NONE);
        faulty(0, "link 1 1 2;", 2, 7);
        faulty(0, "link 0 1 1;", 2, 9);
        faulty(0, "link 0 1 0;", 2, 9);
        faulty(0, "link 10 1 0;", 2, 5);
        faulty(0, times("piece love 1;", 8), 0, NONE);
        faulty(0, times("piece love 1;", 9), 3, 104);
        faulty(0, times("piece love 1;", 8) + "piece love 99;", 3, 104);
        faulty(0, "piece love 99;" + times("piece love 1;", 8), 2, 11);
        faulty(0, times("piece love 1;", 9) + "piece", 1, 122);
        faulty(0, times("secret love 1;", 10), 0, NONE);
        faulty(0, times("secret love 1;", 11), 3, 140);
        faulty(0, times("link 0 1 2;", 9), 3, 88);
        faulty(0, times("link 0 1 2;", 8), 4, 88);
        faulty(0, "piece love 1;secret love 1;" + times("knows 0 0;", 50), 0, NONE);
        faulty(1, "tell 9 7;both 9 0 7;polish 7;steal 7;back 7;hour;", 0, NONE);
        faulty(1, "tell 10 0;", 2, 5);
        faulty(1, "tell 0 8;", 2, 7);
        faulty(1, "both 10 0 1;", 2, 5);
        faulty(1, "both 0 8 1;", 2, 7);
        faulty(1, "both 0 1 8;", 2, 9);
        faulty(1, "both 0 1 1;", 2, 9);
        faulty(1, "both 0 1 0;", 0, NONE);
        faulty(1, "polish 8;", 2, 7);
        faulty(1, "steal 8;", 2, 6);
        faulty(1, "back 8;", 2, 5);
        faulty(1, "hour 1;", 1, 5);
        faulty(1, times("hour;", 40), 0, NONE);
        faulty(1, times("hour;", 41), 3, 200);
        faulty(1, times("hour;", 40) + "back 0;", 3, 200);
        faulty(1, "tell 0 8;" + times("hour;", 40), 2, 7);
        faulty(1, times("hour;", 120), 3, 200);
        faulty(2, "dinner 61 0 1;", 2, 7);
        faulty(2, "dinner 60 7 60;", 0, NONE);
        faulty(2, "dinner 5 0 1;dinner 4 0 1;", 2, 20);
        faulty(2, "dinner 5 0 1;dinner 5 0 1;", 0, NONE);
        faulty(2, "dinner 0 8 1;", 2, 9);
        faulty(2, "dinner 0 0 0;", 2, 11);
        faulty(2, "dinner 0 0 61;", 2, 11);
        faulty(2, times("dinner 0 0 1;", 8), 0, NONE);
        faulty(2, times("dinner 0 0 1;", 9), 3, 104);
        faulty(2, "dinner 0 0;", 1, 10);
        faulty(3, "shone 8 0;", 2, 6);
        faulty(3, "shone 0 61;", 2, 8);
        faulty(3, "shone 7 60;", 0, NONE);
        faulty(3, times("shone 0 0;", 8), 0, NONE);
        faulty(3, times("shone 0 0;", 9), 3, 80);
        TarnishTurns x = new TarnishTurns();
        Kit.tell(x, 1, "back 8;");
        due("5 another what", x.fault(2), NONE);
        due("5 another what below", x.fault(-1), NONE);
        due("5 kept till the next text", x.fault(0), 2);
        Kit.tell(x, 1, "back 7;");
        due("5 without", x.fault(0), 0);
        due("5 without a place", x.fault(1), NONE);
    }

    private static void promise6() {
        TarnishTurns x = silver();
        int[] whats = {0, 1, 2, 10, 11, 12, 20, 21, 22, 30, 31, 32, 40, 41, 42, 43, 50, 51, 52, 53,
            60, 61, 70, 71, 80, 81};
        int[] wants = {3, 4, 2, 0, 1, 3, 2, 3, 0, 2, 6, 0, 0, 1, 2, 3, 5, 4, 9, 3, 0, 2, 1, 3, 2, 0};
        for (int i = 0; i < whats.length; i++) {
            due("6 what " + whats[i], x.house(0, whats[i]), wants[i]);
        }
        for (int what : new int[] {3, 9, 13, 19, 23, 33, 44, 49, 54, 62, 69, 72, 82, 90, 100, -1, -10, LEAST, MOST}) {
            due("6 another what " + what, x.house(0, what), NONE);
        }
        due("6 none such", x.house(1, 0), NONE);
        due("6 none such below", x.house(-1, 0), NONE);
        TarnishTurns full = home(times("piece will 9;", 8) + times("secret will 30;", 10)
                + times("link 9 8 7;", 8) + times("knows 7 9;", 3));
        due("6 last piece", full.house(0, 17), 3);
        due("6 last wear", full.house(0, 27), 9);
        due("6 known once", full.house(0, 37), 512);
        due("6 last kind", full.house(0, 49), 3);
        due("6 last weight", full.house(0, 59), 30);
        due("6 last link", full.house(0, 87), 7);
        due("6 a ninth", full.house(0, 88), NONE);
    }

    private static void promise7() {
        TarnishTurns x = silver();
        int[][] worths = {{10, 5, 5}, {2, 4, 4}, {9, 4, 9}, {3, 3, 6}};
        for (int s = 0; s < 4; s++) {
            for (int p = 0; p < 3; p++) {
                due("7 worth " + s + " " + p, x.worth(0, s, p), worths[s][p]);
            }
        }
        due("7 no house", x.worth(1, 0, 0), NONE);
        due("7 no secret", x.worth(0, 4, 0), NONE);
        due("7 no secret below", x.worth(0, -1, 0), NONE);
        due("7 no piece", x.worth(0, 0, 3), NONE);
        due("7 no piece below", x.worth(0, 0, -1), NONE);
        TarnishTurns cut = home("piece love 1;piece will 1;secret love 3;secret death 1;knows 0 0;knows 1 0;knows 1 1;");
        due("7 twice, then half", cut.worth(0, 0, 0), 3);
        due("7 half is cut", cut.worth(0, 0, 1), 1);
        due("7 half of one", cut.worth(0, 1, 1), 0);
    }

    private static void promise8() {
        TarnishTurns x = Kit.with(null, "tell 1 2;both 3 4 5;polish 6;steal 7;back 0;hour;", null, null);
        due("8 how many", x.deed(0, NONE, 0), 6);
        int[][] deeds = {{0, 1, 2, NONE}, {1, 3, 4, 5}, {2, 6, NONE, NONE}, {3, 7, NONE, NONE}, {4, 0, NONE, NONE},
            {5, NONE, NONE, NONE}};
        for (int k = 0; k < 6; k++) {
            for (int what = 0; what < 4; what++) {
                due("8 deed " + k + " " + what, x.deed(0, k, what), deeds[k][what]);
            }
            due("8 another what", x.deed(0, k, 4), -2);
            due("8 another what below", x.deed(0, k, -1), -2);
        }
        due("8 how many, another what", x.deed(0, NONE, 1), -2);
        due("8 no deed", x.deed(0, 6, 0), -2);
        due("8 no deed below", x.deed(0, -2, 0), -2);
        due("8 no month", x.deed(1, NONE, 0), -2);
        due("8 no month below", x.deed(-1, 0, 0), -2);
    }

    private static int end(String house, String month) {
        return Kit.with(house, month, null, null).till(0, 0);
    }

    private static void promise9() {
        TarnishTurns x = silver();
        due("9 a secret that is not there", x.till(0, 0), 10);
        due("9 no house", x.till(1, 0), NONE);
        due("9 no month", x.till(0, 1), NONE);
        due("9 below", x.till(-1, -1), NONE);
        String house = "piece love 1;piece debt 1;secret love 4;";
        due("9 all", end(house, "hour;tell 0 1;both 0 1 0;polish 1;steal 1;back 1;"), 6);
        due("9 empty", end(house, ""), 0);
        due("9 no such piece", end(house, "hour;tell 0 2;"), 1);
        due("9 both, no such piece", end(house, "both 0 1 2;"), 0);
        due("9 both, no such secret", end(house, "both 1 0 1;"), 0);
        due("9 polish, no such piece", end(house, "polish 2;hour;"), 0);
        due("9 steal, no such piece", end(house, "steal 2;"), 0);
        due("9 back, no such piece", end(house, "back 2;"), 0);
        due("9 tell a stolen one", end(house, "steal 0;tell 0 0;"), 1);
        due("9 tell another", end(house, "steal 0;tell 0 1;"), 2);
        due("9 both, the first is stolen", end(house, "steal 0;both 0 0 1;"), 1);
        due("9 both, the second is stolen", end(house, "steal 1;both 0 0 1;"), 1);
        due("9 polish a stolen one", end(house, "steal 1;polish 1;"), 1);
        due("9 steal twice", end(house, "steal 1;steal 1;"), 1);
        due("9 back of one that is there", end(house, "back 1;"), 0);
        due("9 back twice", end(house, "steal 0;back 0;back 0;"), 2);
        due("9 hours in an empty house", end("", times("hour;", 40)), 40);
    }

    private static void promise10() {
        TarnishTurns x = silver();
        int[] hours = {0, 0, 1, 1, 1, 2, 2, 2, 2, 2, 3};
        int[] bright = {NONE, 0, 0, 0, 1, 2, NONE, 0, 0, 2, 2};
        int[] dusk = {0, 0, 0, 1, 1, 0, 0, 0, 0, 0, 0};
        int[] stolen = {0, 0, 0, 0, 0, 0, 4, 4, 0, 0, 0};
        int[] given = {0, 10, 10, 10, 16, 16, 16, 19, 19, 25, 25};
        int[][] shine = {{0, 0, 0}, {10, 0, 0}, {8, 0, 0}, {8, 0, 0}, {0, 2, 4}, {0, 0, 4}, {0, 0, 0}, {3, 0, 0},
            {3, 0, 0}, {0, 0, 6}, {0, 0, 6}};
        int[][] knows = {{2, 6, 0}, {3, 6, 0}, {3, 6, 0}, {3, 6, 0}, {3, 6, 4}, {3, 6, 4}, {3, 6, 4}, {11, 6, 4},
            {11, 6, 4}, {11, 6, 12}, {11, 6, 12}};
        for (int n = 0; n <= 10; n++) {
            due("10 hour " + n, x.state(0, 0, n, 0), hours[n]);
            due("10 bright " + n, x.state(0, 0, n, 1), bright[n]);
            due("10 dusk " + n, x.state(0, 0, n, 2), dusk[n]);
            due("10 stolen " + n, x.state(0, 0, n, 3), stolen[n]);
            due("10 given " + n, x.state(0, 0, n, 4), given[n]);
            for (int p = 0; p < 3; p++) {
                due("10 shine " + n + " " + p, x.state(0, 0, n, 10 + p), shine[n][p]);
                due("10 gloss " + n + " " + p, x.state(0, 0, n, 20 + p), p == 1 && (n == 3 || n == 4) ? 5 : 0);
                due("10 knows " + n + " " + p, x.state(0, 0, n, 30 + p), knows[n][p]);
            }
        }
        due("10 behind the end", x.state(0, 0, 11, 0), -2);
        due("10 below", x.state(0, 0, -1, 0), -2);
        due("10 most", x.state(0, 0, MOST, 0), -2);
        due("10 no house", x.state(1, 0, 0, 0), -2);
        due("10 no month", x.state(0, 1, 0, 0), -2);
        for (int what : new int[] {5, 9, 13, 19, 23, 33, 40, -1, -10, LEAST, MOST}) {
            due("10 another what " + what, x.state(0, 0, 1, what), -2);
        }
        TarnishTurns y = Kit.with("piece love 1;piece love 1;piece will 9;secret love 30;secret debt 7;",
                "polish 0;polish 1;both 1 1 0;steal 0;back 0;tell 0 1;tell 0 1;hour;both 0 0 1;polish 1;steal 1;", null,
                null);
        due("10 no other gloss", y.state(0, 0, 2, 20), 0);
        due("10 of several the least", y.state(0, 0, 2, 1), 1);
        due("10 half of 7", y.state(0, 0, 3, 10), 3);
        due("10 shine and gloss", y.state(0, 0, 3, 1), 1);
        due("10 stolen has none", y.state(0, 0, 4, 10), 0);
        due("10 none comes back", y.state(0, 0, 5, 10), 0);
        due("10 gloss stays when told", y.state(0, 0, 6, 21), 5);
        due("10 sixty", y.state(0, 0, 6, 11), 60);
        due("10 told again", y.state(0, 0, 7, 11), 30);
        due("10 half of half", y.state(0, 0, 9, 11), 15);
        due("10 half", y.state(0, 0, 9, 10), 30);
        due("10 all that was given", y.state(0, 0, 9, 4), 6 + 60 + 30 + 45);
        due("10 bright by shine", y.state(0, 0, 10, 1), 0);
        due("10 gloss is stolen, too", y.state(0, 0, 11, 21), 0);
        TarnishTurns even = Kit.with("piece love 1;piece love 1;secret love 5;", "both 0 1 0;", null, null);
        due("10 even, the least", even.state(0, 0, 1, 1), 0);
        due("10 even is dusk", even.state(0, 0, 1, 2), 1);
    }

    private static void promise11() {
        TarnishTurns x = silver();
        due("11 how many", x.dinner(0, NONE, 0), 4);
        int[][] dinners = {{0, 0, 8}, {1, 0, 8}, {1, 2, 5}, {5, 2, 6}};
        for (int k = 0; k < 4; k++) {
            for (int what = 0; what < 3; what++) {
                due("11 dinner " + k + " " + what, x.dinner(0, k, what), dinners[k][what]);
            }
            due("11 another what", x.dinner(0, k, 3), -2);
            due("11 another what below", x.dinner(0, k, -1), -2);
        }
        due("11 how many, another what", x.dinner(0, NONE, 1), -2);
        due("11 no dinner", x.dinner(0, 4, 0), -2);
        due("11 no dinner below", x.dinner(0, -2, 0), -2);
        due("11 none such", x.dinner(1, NONE, 0), -2);
        due("11 none such below", x.dinner(-1, 0, 0), -2);
    }

    private static void servedRow(String house, String dinners, int fewest, int serves, int... row) {
        TarnishTurns x = Kit.with(house, null, dinners, null);
        due("12 fewest by " + dinners, x.served(0, 0, NONE), fewest);
        due("12 serves by " + dinners, x.served(0, 0, -2), serves);
        for (int k = 0; k < row.length; k++) {
            due("12 row " + k + " by " + dinners, x.served(0, 0, k), row[k]);
        }
        due("12 no such dinner", x.served(0, 0, row.length), NONE);
    }

    private static void promise12() {
        servedRow(Kit.SILVER, DINNERS, 2, 4, 0, 10, 2, 10);
        servedRow(Kit.SILVER, "", 0, 0);
        servedRow("", "", 0, 0);
        servedRow(Kit.SILVER, "dinner 0 1 20;", NONE, 0, NONE);
        servedRow(Kit.SILVER, "dinner 0 0 9;dinner 0 0 10;dinner 9 0 60;", NONE, 2, NONE, NONE, NONE);
        servedRow(Kit.SILVER, "dinner 9 3 1;", NONE, NONE, NONE);
        // who is told takes the others' shine
        servedRow("piece love 0;piece love 0;secret love 5;secret love 6;secret love 7;",
                "dinner 0 0 1;dinner 0 1 1;dinner 0 0 1;", 3, 3, 0, 1, 2);
        // the second is told as soon as it can be
        servedRow("piece love 1;secret love 3;secret love 3;",
                "dinner 0 0 1;dinner 1 0 1;dinner 5 0 1;dinner 6 0 1;", 2, 4, 0, 1, 10, 10);
        servedRow("piece love 1;secret love 3;secret love 3;",
                "dinner 0 0 5;dinner 1 0 5;dinner 2 0 5;dinner 3 0 5;", 2, 4, 0, 10, 1, 10);
        // a known one is worth half
        servedRow("piece love 1;secret love 4;secret love 4;knows 0 0;", "dinner 0 0 5;", 1, 1, 1);
        TarnishTurns x = silver();
        due("12 no house", x.served(1, 0, NONE), NONE);
        due("12 no dinners", x.served(0, 1, NONE), NONE);
        due("12 below", x.served(0, 0, -3), NONE);
        due("12 least", x.served(0, 0, LEAST), NONE);
    }

    private static void promise13() {
        TarnishTurns x = silver();
        int[] comes = {0, 1, 2, 7, 4, 5, 6, 7, 8, 9, 10, 15, 13, 13, 15, 15};
        for (int bits = 0; bits < 16; bits++) {
            due("13 comes " + bits, x.comes(0, bits), comes[bits]);
        }
        due("13 no such secrets", x.comes(0, 16), NONE);
        due("13 below", x.comes(0, -1), NONE);
        due("13 no house", x.comes(1, 0), NONE);
        due("13 again and again", home(CHAIN).comes(0, 3), 1023);
        due("13 empty house", home("").comes(0, 0), 0);
        due("13 empty house, a secret", home("").comes(0, 1), NONE);
    }

    /** Told last to first, so that one round finds one SECRET. */
    private static final String CHAIN = times("secret love 1;", 10) + "link 7 8 9;link 6 7 8;link 5 6 7;link 4 5 6;"
            + "link 3 4 5;link 2 3 4;link 1 2 3;link 0 1 2;";

    private static void promise14() {
        TarnishTurns x = silver();
        int[] keep = {5, 2, 5, 8};
        int[] find = {12, NONE, 3, NONE};
        for (int s = 0; s < 4; s++) {
            due("14 keep " + s, x.keep(0, s, false), keep[s]);
            due("14 find " + s, x.keep(0, s, true), find[s]);
        }
        due("14 no secret", x.keep(0, 4, false), NONE);
        due("14 no secret below", x.keep(0, -1, true), NONE);
        due("14 no house", x.keep(1, 0, false), NONE);
        due("14 what is kept may come all the same", home(CHAIN).keep(0, 9, false), 512 + 128 + 32 + 8 + 2);
        due("14 chain find", home(CHAIN).keep(0, 9, true), 3);
    }

    private static void promise15() {
        TarnishTurns x = silver();
        for (int n = 0; n <= 8; n++) {
            due("15 weight " + n, x.theft(0, n, false), n == 0 ? 0 : 13);
            due("15 pieces " + n, x.theft(0, n, true), n == 0 ? 0 : 2);
        }
        due("15 another n", x.theft(0, 9, false), NONE);
        due("15 another n below", x.theft(0, -1, true), NONE);
        due("15 no house", x.theft(1, 1, false), NONE);
        TarnishTurns y = home("piece love 0;piece love 0;piece love 0;secret love 5;secret love 5;secret love 9;"
                + "knows 0 0;knows 1 1;knows 2 0;link 0 1 2;");
        due("15 one of several", y.theft(0, 1, true), 1);
        due("15 two and what comes", y.theft(0, 2, false), 19);
        due("15 the least two", y.theft(0, 2, true), 3);
        due("15 no more than they need", y.theft(0, 8, true), 3);
        due("15 empty", home("").theft(0, 8, true), 0);
    }

    private static void promise16() {
        TarnishTurns x = silver();
        int[] weights = {0, 1, 8, 9, 11, 12, 20, 21, 99, 100, -1};
        int[] evenings = {NONE, NONE, NONE, 3, 3, 2, 2, 1, 1, NONE, NONE};
        for (int i = 0; i < weights.length; i++) {
            due("16 evenings " + weights[i], x.evenings(0, weights[i]), evenings[i]);
        }
        due("16 no house", x.evenings(1, 9), NONE);
        due("16 no secrets", home("").evenings(0, 1), 0);
        due("16 no secrets, another weight", home("").evenings(0, 0), NONE);
        due("16 not by heaps", home("secret love 6;secret love 5;secret love 5;secret love 4;secret love 4;"
                + "secret love 3;secret love 3;").evenings(0, 15), 2);
    }

    private static void fraction(String call, long above, long below, long n, long d) {
        due(call + " N", above, n);
        due(call + " D", below, d);
    }

    private static void promise17() {
        TarnishTurns x = silver();
        fraction("17 two", x.hidden(0, 2, 2, false), x.hidden(0, 2, 2, true), 1, 3);
        fraction("17 none", x.hidden(0, 2, 0, false), x.hidden(0, 2, 0, true), 1, 1);
        fraction("17 one", x.hidden(0, 2, 1, false), x.hidden(0, 2, 1, true), 3, 4);
        fraction("17 all", x.hidden(0, 2, 4, false), x.hidden(0, 2, 4, true), 0, 1);
        due("17 above", x.hidden(0, 2, 5, false), NONE);
        due("17 below", x.hidden(0, 2, -1, true), NONE);
        due("17 no secret", x.hidden(0, 4, 1, true), NONE);
        due("17 no secret below", x.hidden(0, -1, 1, true), NONE);
        due("17 no house", x.hidden(1, 0, 1, false), NONE);
    }

    private static void promise18() {
        TarnishTurns x = silver();
        due("18 heirs", x.heirs(0, false), 1);
        due("18 by", x.heirs(0, true), 9);
        due("18 no house", x.heirs(1, false), NONE);
        due("18 no house, by", x.heirs(-1, true), NONE);
        due("18 empty", home("").heirs(0, false), 0);
        due("18 empty, by", home("").heirs(0, true), 0);
        TarnishTurns y = home("piece love 0;piece love 0;piece love 0;secret love 5;secret love 7;link 0 1 2;"
                + "secret will 9;knows 0 0;knows 0 1;knows 1 0;knows 2 1;");
        due("18 each by itself", y.heirs(0, true), 0);
        due("18 the least set", y.heirs(0, false), 1);
    }

    private static void promise19() {
        TarnishTurns x = silver();
        due("19 how many", x.fact(0, NONE, 0), 2);
        due("19 piece", x.fact(0, 1, 0), 1);
        due("19 hours", x.fact(0, 1, 1), 2);
        due("19 first", x.fact(0, 0, 1), 3);
        due("19 another what", x.fact(0, 0, 2), -2);
        due("19 another what below", x.fact(0, 0, -1), -2);
        due("19 how many, another what", x.fact(0, NONE, 1), -2);
        due("19 no fact", x.fact(0, 2, 0), -2);
        due("19 no fact below", x.fact(0, -2, 0), -2);
        due("19 no log", x.fact(1, NONE, 0), -2);
        due("19 no log below", x.fact(-1, NONE, 0), -2);
    }

    private static void promise20() {
        TarnishTurns x = silver();
        due("20 how many", x.fits(0, 0, 0), 4);
        due("20 kind", x.fits(0, 0, 1), NONE);
        due("20 weight", x.fits(0, 0, 2), NONE);
        due("20 which", x.fits(0, 0, 3), 0);
        due("20 ask", x.fits(0, 0, 4), 0);
        int[] codes = {64, 65, 94, 95};
        for (int k = 0; k < 4; k++) {
            due("20 fit " + k, x.fits(0, 0, 10 + k), codes[k]);
        }
        for (int what : new int[] {5, 9, 14, -1, LEAST, MOST}) {
            due("20 another what " + what, x.fits(0, 0, what), -2);
        }
        due("20 no house", x.fits(1, 0, 0), -2);
        due("20 no log", x.fits(0, 1, 0), -2);
        Kit.put(x, "shone 3 1;");
        x.text(3, 0);
        due("20 a piece is not there", x.fits(0, 0, 0), -2);
        TarnishTurns free = Kit.with(Kit.SILVER, null, null, "");
        due("20 all fit", free.fits(0, 0, 0), 120);
        due("20 the last", free.fits(0, 0, 129), 119);
        due("20 behind the last", free.fits(0, 0, 130), -2);
        due("20 all secrets", free.fits(0, 0, 3), 15);
        due("20 ask the one that tells most", free.fits(0, 0, 4), 0);
        TarnishTurns none = Kit.with("piece love 1;secret love 1;", null, null, "shone 0 0;");
        due("20 nothing fits", none.fits(0, 0, 0), 0);
        due("20 nothing is sure", none.fits(0, 0, 1), NONE);
        due("20 no weight", none.fits(0, 0, 2), NONE);
        due("20 no secret", none.fits(0, 0, 3), 0);
        due("20 none to ask", none.fits(0, 0, 4), NONE);
        due("20 no first", none.fits(0, 0, 10), -2);
        due("20 no pieces", Kit.with("", null, null, "").fits(0, 0, 4), NONE);
        TarnishTurns sure = Kit.with("piece love 1;piece debt 0;secret love 30;secret love 30;secret debt 30;knows 0 0;",
                null, null, "shone 0 60;shone 1 60;");
        due("20 one", sure.fits(0, 0, 0), 1);
        due("20 sure kind", sure.fits(0, 0, 1), 0);
        due("20 sure weight", sure.fits(0, 0, 2), 30);
        due("20 both of them, known or not", sure.fits(0, 0, 3), 3);
    }

    private static void promise21() {
        // By seed 0 come 0, 54236, 42756, 54885, 3498, 49695, 16045: tell 0 0; hour; both 3 1 2.
        TarnishTurns x = silver();
        due("21 nothing", x.drawn(0, 0, 0, 1), NONE);
        due("21 tell", x.drawn(0, 0, 1, 1), 0);
        due("21 its shine", x.drawn(0, 0, 1, 10), 10);
        due("21 known", x.drawn(0, 0, 1, 30), 3);
        due("21 hour", x.drawn(0, 0, 2, 0), 1);
        due("21 wears off", x.drawn(0, 0, 2, 10), 8);
        due("21 both", x.drawn(0, 0, 3, 1), 2);
        due("21 the one", x.drawn(0, 0, 3, 11), 1);
        due("21 the other", x.drawn(0, 0, 3, 12), 3);
        due("21 dusk", x.drawn(0, 0, 3, 2), 1);
        due("21 given", x.drawn(0, 0, 3, 4), 14);
        due("21 another n", x.drawn(0, 0, 61, 0), -2);
        due("21 another n below", x.drawn(0, 0, -1, 0), -2);
        due("21 another what", x.drawn(0, 0, 1, 5), -2);
        due("21 no such piece", x.drawn(0, 0, 1, 13), -2);
        due("21 no house", x.drawn(1, 0, 1, 0), -2);
        // Nothing more is drawn where nothing is done: hours by 54236, 42756, 54885 of the first six.
        for (String house : new String[] {"", "piece love 1;", "secret love 1;"}) {
            TarnishTurns y = home(house);
            due("21 hours in " + house, y.drawn(0, 0, 6, 0), 3);
            due("21 nothing is stolen in " + house, y.drawn(0, 0, 6, 3), 0);
        }
        // 0, then 0 % 1 twice, hour, then both: with one piece it may not be.
        TarnishTurns one = home("piece love 1;secret debt 9;");
        due("21 one piece can't be two", one.drawn(0, 0, 3, 10), 8);
    }

    private static void promise22() {
        TarnishTurns x = silver();
        int[][] cases = {{0, 0, 0, 10}, {0, 4, 0, 2}, {0, 5, 0, 0}, {1, 0, 0, 5}, {1, 1, 0, 2}, {2, 60, 2, 9}};
        for (int[] c : cases) {
            due("22 lasting " + c[0] + " " + c[1], x.lasting(0, c[0], c[1], false), c[2]);
            due("22 much " + c[0] + " " + c[1], x.lasting(0, c[0], c[1], true), c[3]);
        }
        due("22 another n", x.lasting(0, 0, 61, false), NONE);
        due("22 another n below", x.lasting(0, 0, -1, true), NONE);
        due("22 no piece", x.lasting(0, 3, 0, false), NONE);
        due("22 no piece below", x.lasting(0, -1, 0, false), NONE);
        due("22 no house", x.lasting(1, 0, 0, true), NONE);
        due("22 no secrets", home("piece love 1;").lasting(0, 0, 0, true), NONE);
    }

    private static void promise23() {
        TarnishTurns x = silver();
        due("23 lit 5", x.lit(0, 5), 180);
        due("23 lit 9", x.lit(0, 9), 61);
        due("23 lit 10", x.lit(0, 10), 1);
        due("23 lit 11", x.lit(0, 11), 0);
        due("23 lit 1", x.lit(0, 1), 240);
        due("23 lit 60", x.lit(0, 60), 0);
        due("23 another light", x.lit(0, 61), NONE);
        due("23 no light", x.lit(0, 0), NONE);
        due("23 no house", x.lit(1, 1), NONE);
        due("23 wears off", home("piece love 2;secret love 5;secret will 1;").lit(0, 1), 6);
        due("23 sixty hours", home("piece love 1;secret love 30;").lit(0, 1), 60);
        due("23 no pieces", home("secret love 30;").lit(0, 1), 0);
    }

    private static void promise24() {
        TarnishTurns x = silver();
        due("24 couple", x.dusky(0, 0, false), 2);
        due("24 hours", x.dusky(0, 0, true), 3);
        due("24 the first", x.dusky(0, 1, false), 1);
        due("24 an hour", x.dusky(0, 1, true), 1);
        due("24 no secret", x.dusky(0, 4, false), NONE);
        due("24 no secret below", x.dusky(0, -1, true), NONE);
        due("24 no house", x.dusky(1, 0, false), NONE);
        due("24 one piece", home("piece love 1;secret love 1;").dusky(0, 0, true), NONE);
        TarnishTurns y = home("piece debt 0;piece love 0;piece love 0;secret love 1;");
        due("24 both shine", y.dusky(0, 0, false), 12);
        due("24 sixty", y.dusky(0, 0, true), 60);
        TarnishTurns z = home("piece debt 0;piece debt 0;secret love 1;");
        due("24 none shines", z.dusky(0, 0, true), 0);
        due("24 the first couple", z.dusky(0, 0, false), 1);
    }

    private static void promise25() {
        TarnishTurns x = silver();
        due("25 fitter", x.fitter(0, false), 22);
        due("25 much", x.fitter(0, true), 70);
        due("25 no house", x.fitter(1, false), NONE);
        due("25 no pieces", home("secret love 1;").fitter(0, true), NONE);
        due("25 no secrets", home("piece will 1;").fitter(0, false), 0);
        due("25 no secrets, much", home("piece will 1;").fitter(0, true), 0);
        due("25 of several the least", home("piece will 1;piece will 1;secret will 1;").fitter(0, false), 3);
    }

    private static void promise26() {
        TarnishTurns x = silver();
        Kit.tell(x, 0, "piece love 9;secret love 5;secret death 30;");
        due("26 one unlike", x.unlike(0, 1), 1);
        due("26 the other way", x.unlike(1, 0), 1);
        due("26 itself", x.unlike(0, 0), 0);
        due("26 none such", x.unlike(0, 2), NONE);
        due("26 none such below", x.unlike(-1, 0), NONE);
        Kit.put(x, "piece will 1;piece will 1;piece will 1;piece will 1;" + times("secret will 29;", 5));
        x.text(0, 1);
        due("26 those in both", x.unlike(0, 1), 12);
    }

    private static void promise27() {
        TarnishTurns x = silver();
        due("27 all", x.spread(0, 0), 0);
        due("27 none", x.spread(0, 1), 9);
        due("27 just one", x.spread(0, 2), 4);
        due("27 another what", x.spread(0, 3), NONE);
        due("27 another what below", x.spread(0, -1), NONE);
        due("27 no house", x.spread(1, 0), NONE);
        TarnishTurns y = home("piece love 1;piece love 1;secret love 1;secret love 1;knows 0 0;knows 1 0;knows 1 1;");
        due("27 all know it", y.spread(0, 0), 1);
        due("27 one knows it", y.spread(0, 2), 2);
        TarnishTurns z = home("secret love 1;");
        due("27 no pieces, all", z.spread(0, 0), 1);
        due("27 no pieces, none", z.spread(0, 1), 1);
        due("27 no pieces, one", z.spread(0, 2), 0);
    }

    private static void promise28() {
        TarnishTurns x = silver();
        due("28 one of them", x.depth(0, 3, 1), 0);
        due("28 one round", x.depth(0, 3, 2), 1);
        due("28 two rounds", x.depth(0, 11, 2), 1);
        due("28 does not come", x.depth(0, 3, 3), NONE);
        due("28 no secrets", x.depth(0, 16, 0), NONE);
        due("28 below", x.depth(0, -1, 0), NONE);
        due("28 no secret", x.depth(0, 1, 4), NONE);
        due("28 no secret below", x.depth(0, 1, -1), NONE);
        due("28 no house", x.depth(1, 0, 0), NONE);
        due("28 eight rounds", home(CHAIN).depth(0, 3, 9), 8);
        String forth = times("secret love 1;", 5) + "link 0 1 2;link 1 2 3;link 2 3 4;";
        due("28 by those known ahead of the round", home(forth).depth(0, 3, 4), 3);
    }

    private static void promise29() {
        TarnishTurns x = silver();
        due("29 none", x.spare(0), 0);
        due("29 no house", x.spare(1), NONE);
        due("29 each of two alike", home(times("secret love 1;", 3) + "link 0 1 2;link 1 0 2;").spare(0), 3);
        due("29 by others", home(times("secret love 1;", 4) + "link 0 1 2;link 1 2 3;link 0 1 3;").spare(0), 4);
        due("29 no links", home("").spare(0), 0);
    }

    private static void promise30() {
        TarnishTurns x = silver();
        int[][] cases = {{0, 1, 13, 0}, {1, 1, 4, 2}, {2, 1, 0, 3}, {8, 8, 0, 3}, {1, 0, 0, 0}, {0, 8, 13, 0}};
        for (int[] c : cases) {
            due("30 guarded " + c[0] + " " + c[1], x.guarded(0, c[0], c[1], false), c[2]);
            due("30 which " + c[0] + " " + c[1], x.guarded(0, c[0], c[1], true), c[3]);
        }
        due("30 other g", x.guarded(0, 9, 1, false), NONE);
        due("30 other g below", x.guarded(0, -1, 1, false), NONE);
        due("30 other n", x.guarded(0, 1, 9, true), NONE);
        due("30 other n below", x.guarded(0, 1, -1, true), NONE);
        due("30 no house", x.guarded(1, 1, 1, false), NONE);
    }

    private static void promise31() {
        TarnishTurns x = silver();
        int[] nine = {0, 0, 1, 2};
        int[] twelve = {0, 0, 1, 0};
        for (int s = 0; s < 4; s++) {
            due("31 nine " + s, x.evening(0, 9, s), nine[s]);
            due("31 twelve " + s, x.evening(0, 12, s), twelve[s]);
            due("31 all " + s, x.evening(0, 99, s), 0);
            due("31 too heavy " + s, x.evening(0, 8, s), NONE);
        }
        due("31 another weight", x.evening(0, 100, 0), NONE);
        due("31 no weight", x.evening(0, 0, 0), NONE);
        due("31 no secret", x.evening(0, 9, 4), NONE);
        due("31 no secret below", x.evening(0, 9, -1), NONE);
        due("31 no house", x.evening(1, 9, 0), NONE);
        // 3 and 3 can't be told together, if two evenings are to do
        TarnishTurns y = home("secret love 3;secret love 3;secret love 7;secret love 7;");
        int[] ten = {0, 1, 0, 1};
        for (int s = 0; s < 4; s++) {
            due("31 as few as can be " + s, y.evening(0, 10, s), ten[s]);
        }
    }

    private static void promise32() {
        TarnishTurns x = silver();
        fraction("32 none", x.leaks(0, 0, false), x.leaks(0, 0, true), 0, 1);
        fraction("32 one", x.leaks(0, 1, false), x.leaks(0, 1, true), 21, 4);
        fraction("32 two", x.leaks(0, 2, false), x.leaks(0, 2, true), 77, 6);
        fraction("32 all", x.leaks(0, 4, false), x.leaks(0, 4, true), 21, 1);
        due("32 above", x.leaks(0, 5, false), NONE);
        due("32 below", x.leaks(0, -1, true), NONE);
        due("32 no house", x.leaks(1, 0, false), NONE);
        fraction("32 no secrets", home("").leaks(0, 0, false), home("").leaks(0, 0, true), 0, 1);
    }

    private static void promise33() {
        TarnishTurns x = silver();
        int[][] cuts = {{0, 0}, {4, 2}, {14, 5}, {18, 7}};
        for (int n = 0; n <= 3; n++) {
            due("33 cut " + n, x.cut(0, n, false), cuts[n][0]);
            due("33 which " + n, x.cut(0, n, true), cuts[n][1]);
        }
        due("33 another n", x.cut(0, 4, false), NONE);
        due("33 another n below", x.cut(0, -1, true), NONE);
        due("33 no house", x.cut(1, 1, false), NONE);
        due("33 more than there are", home("secret love 4;").cut(0, 3, true), 1);
        due("33 nothing can be kept", home("").cut(0, 3, false), 0);
    }

    private static void promise34() {
        TarnishTurns x = silver();
        due("34 star", x.after(0, 0, 0), 0);
        due("34 dark", x.after(0, 0, 1), 2);
        due("34 dusked", x.after(0, 0, 2), 3);
        due("34 greatest", x.after(0, 0, 3), 10);
        due("34 another what", x.after(0, 0, 4), -2);
        due("34 another what below", x.after(0, 0, -1), -2);
        due("34 no house", x.after(1, 0, 0), -2);
        due("34 no month", x.after(0, 1, 0), -2);
        TarnishTurns y = Kit.with("piece love 1;", "hour;hour;", null, null);
        due("34 never any", y.after(0, 0, 0), NONE);
        due("34 all dark", y.after(0, 0, 1), 3);
        due("34 never dusk", y.after(0, 0, 2), NONE);
        due("34 no shine", y.after(0, 0, 3), 0);
        TarnishTurns z = Kit.with("piece love 1;piece love 1;", "polish 1;polish 0;", null, null);
        due("34 of several the least", z.after(0, 0, 0), 0);
        due("34 gloss is no shine", z.after(0, 0, 3), 0);
    }

    private static void promise35() {
        TarnishTurns x = silver();
        due("35 its own", x.would(0, 0, 0, 0), 3);
        due("35 another", x.would(0, 0, 3, 2), 60);
        due("35 not so many", x.would(0, 0, 4, 0), NONE);
        due("35 below", x.would(0, 0, -1, 0), NONE);
        due("35 no piece", x.would(0, 0, 0, 3), NONE);
        due("35 no piece below", x.would(0, 0, 0, -1), NONE);
        due("35 no house", x.would(1, 0, 0, 0), NONE);
        due("35 no log", x.would(0, 1, 0, 0), NONE);
        TarnishTurns free = Kit.with(Kit.SILVER, null, null, "");
        due("35 debt 30 to debt", free.would(0, 0, 59, 1), 20);
        due("35 love 30 to debt", free.would(0, 0, 29, 1), 10);
        Kit.put(x, "shone 3 1;");
        x.text(3, 0);
        due("35 a piece of the log is not there", x.would(0, 0, 0, 0), NONE);
    }

    private static void promise36() {
        TarnishTurns x = silver();
        for (int sort = 0; sort < 4; sort++) {
            due("36 count " + sort, x.count(sort), 1);
        }
        Kit.tell(x, 2, "");
        due("36 two", x.count(2), 2);
        due("36 another sort", x.count(4), -2);
        due("36 another sort below", x.count(-1), -2);
    }

    private static void promises37And38() {
        TarnishTurns x = silver();
        due("37 another k", x.image(3), false);
        due("37 another k below", x.image(-1), false);
        due("38 none yet", x.again(0), false);
        Kit.put(x, "piece love 99;");
        x.text(0, 0);
        Kit.put(x, "hour;");
        due("37 image", x.image(1), true);
        due("38 no image there", x.again(0), false);
        Kit.put(x, "hour;hour;");
        due("38 a second month", x.text(1, NONE), 1);
        Kit.put(x, "");
        x.text(0, 0);
        Kit.put(x, "dinner 1 1 1;");
        x.text(2, 0);
        Kit.put(x, "");
        x.text(3, 0);
        due("37 another image", x.image(0), true);
        due("38 again", x.again(1), true);
        due("38 the tape", x.end(6), NONE);
        due("38 the tape's bytes", x.text(1, NONE), 1);
        due("38 they are these", x.deed(1, NONE, 0), 1);
        due("38 again once more", x.again(1), true);
        due("38 the fault", x.fault(0), 2);
        due("38 its place", x.fault(1), 11);
        due("38 months", x.count(1), 1);
        due("38 the house", x.worth(0, 0, 0), 10);
        due("38 its links", x.house(0, 81), 0);
        due("38 the month", x.till(0, 0), 10);
        due("38 the dinners", x.served(0, 0, 2), 2);
        due("38 the log", x.fits(0, 0, 0), 4);
        due("38 the other", x.again(0), true);
        due("38 its house", x.house(0, 0), 0);
        due("38 its months", x.count(1), 2);
        due("38 its dinners", x.dinner(0, NONE, 0), 1);
        due("38 its fault", x.fault(0), 0);
        due("38 another k", x.again(3), false);
        due("38 another k below", x.again(-1), false);
        due("38 never made", x.again(2), false);
    }

    public static void main(String[] args) {
        promise1();
        promise2();
        promise3();
        promise4();
        promise5();
        promise6();
        promise7();
        promise8();
        promise9();
        promise10();
        promise11();
        promise12();
        promise13();
        promise14();
        promise15();
        promise16();
        promise17();
        promise18();
        promise19();
        promise20();
        promise21();
        promise22();
        promise23();
        promise24();
        promise25();
        promise26();
        promise27();
        promise28();
        promise29();
        promise30();
        promise31();
        promise32();
        promise33();
        promise34();
        promise35();
        promise36();
        promises37And38();
        KIT.finish();
    }
}
