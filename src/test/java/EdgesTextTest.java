/** Edges of texts: each sentence of the document about tape, tokens, NUMBERS, how many there may be, and FAULTS. */
public final class EdgesTextTest {
    private static final int NONE = TarnishTurns.NONE;
    private static final int LEAST = Integer.MIN_VALUE;
    private static final int MOST = Integer.MAX_VALUE;
    private static final Kit KIT = new Kit();

    private static void due(String call, long got, long want) {
        KIT.due(call, got, want);
    }

    private static TarnishTurns taken(int sort, String text) {
        TarnishTurns x = new TarnishTurns();
        due("text " + text, Kit.tell(x, sort, text), 0);
        due("fault of " + text, x.fault(0), 0);
        due("place of " + text, x.fault(1), NONE);
        due("count behind " + text, x.count(sort), 1);
        due("tape behind " + text, x.end(1), NONE);
        return x;
    }

    /** A FAULT: no text comes, the one that was there stays, the tape is taken. */
    private static void faulty(int sort, String text, int fault, int place) {
        TarnishTurns x = new TarnishTurns();
        due("text " + text, Kit.tell(x, sort, text), NONE);
        due("fault of " + text, x.fault(0), fault);
        due("place of " + text, x.fault(1), place);
        due("count behind " + text, x.count(sort), 0);
        due("tape behind " + text, x.end(1), NONE);
        for (int other = 0; other < 4; other++) {
            due("count of " + other + " behind " + text, x.count(other), 0);
        }
    }

    private static void pieces() {
        KIT.of("A HOUSE has PIECES, at most 8, from 0 on");
        for (int n = 0; n <= 8; n++) {
            TarnishTurns x = taken(0, Kit.times("piece will 5;", n));
            due("PIECES " + n, x.house(0, 0), n);
            due("the last PIECE of " + n, x.house(0, 10 + n - 1), n == 0 ? NONE : 3);
            due("no more PIECES than " + n, x.house(0, 10 + n), NONE);
        }
        faulty(0, Kit.times("piece will 5;", 9), 3, 104);
        faulty(0, Kit.times("piece will 5;", 10), 3, 104);
        KIT.of("WEAR, 0 .. 9");
        for (int wear = 0; wear <= 9; wear++) {
            due("WEAR " + wear, taken(0, "piece debt " + wear + ";").house(0, 20), wear);
            due("WEAR 0" + wear, taken(0, "piece debt 0" + wear + ";").house(0, 20), wear);
        }
        faulty(0, "piece debt 10;", 2, 11);
        faulty(0, "piece debt 99;", 2, 11);
    }

    private static void secrets() {
        KIT.of("SECRETS, at most 10, from 0 on");
        for (int n = 0; n <= 10; n++) {
            TarnishTurns x = taken(0, Kit.times("secret will 5;", n));
            due("SECRETS " + n, x.house(0, 1), n);
            due("the last SECRET of " + n, x.house(0, 50 + n - 1), n == 0 ? NONE : 5);
            due("all SECRETS of " + n, x.comes(0, (1 << n) - 1), (1 << n) - 1);
            due("no more SECRETS than " + n, x.comes(0, 1 << n), NONE);
        }
        faulty(0, Kit.times("secret will 5;", 11), 3, 140);
        KIT.of("WEIGHT, 1 .. 30");
        for (int weight = 1; weight <= 30; weight++) {
            due("WEIGHT " + weight, taken(0, "secret debt " + weight + ";").house(0, 50), weight);
        }
        due("WEIGHT 01", taken(0, "secret debt 01;").house(0, 50), 1);
        faulty(0, "secret debt 0;", 2, 12);
        faulty(0, "secret debt 00;", 2, 12);
        faulty(0, "secret debt 31;", 2, 12);
        faulty(0, "secret debt 99;", 2, 12);
    }

    private static void kinds() {
        KIT.of("KINDS: 0 LOVE, 1 DEBT, 2 DEATH, 3 WILL.");
        String[] kinds = {"love", "debt", "death", "will"};
        for (int kind = 0; kind < 4; kind++) {
            TarnishTurns x = taken(0, "piece " + kinds[kind] + " 1;secret " + kinds[kind] + " 1;");
            due("TASTE " + kinds[kind], x.house(0, 10), kind);
            due("KIND " + kinds[kind], x.house(0, 40), kind);
        }
        for (String word : new String[] {"lov", "lover", "deb", "debts", "deat", "deaths", "wil", "wills", "kind", "a",
            "piece", "zzzz", "Love", "dEbt"}) {
            faulty(0, "piece " + word + " 1;", 1, 6);
            faulty(0, "secret " + word + " 1;", 1, 7);
        }
    }

    private static final String TEN = Kit.times("secret love 1;", 10);

    private static void links() {
        KIT.of("LINKS, at most 8, from 0 on: two SECRETS that make a third one known");
        for (int n = 0; n <= 8; n++) {
            TarnishTurns x = taken(0, TEN + Kit.times("link 9 8 7;", n));
            due("LINKS " + n, x.house(0, 2), n);
            due("the last LINK of " + n, n == 0 ? 7 : x.house(0, 80 + n - 1), 7);
            due("no more LINKS than " + n, x.house(0, 60 + n), NONE);
        }
        faulty(0, TEN + Kit.times("link 9 8 7;", 9), 3, 140 + 88);
        KIT.of("of link the second SECRET, if it is the first, the third one, if it is either");
        TarnishTurns x = taken(0, TEN + "link 0 9 5;");
        due("the first of a LINK", x.house(0, 60), 0);
        due("the second of a LINK", x.house(0, 70), 9);
        due("the third of a LINK", x.house(0, 80), 5);
        for (int s = 0; s < 10; s++) {
            faulty(0, TEN + "link " + s + " " + s + " 5;", 2, 147);
            int other = (s + 1) % 10;
            faulty(0, TEN + "link " + s + " " + other + " " + s + ";", 2, 149);
            faulty(0, TEN + "link " + other + " " + s + " " + s + ";", 2, 149);
        }
        faulty(0, TEN + "link 3 3 3;", 2, 147);
        faulty(0, TEN + "link 10 10 1;", 2, 145);
        faulty(0, TEN + "link 10 1 1;", 2, 145);
        faulty(0, TEN + "link 1 10 10;", 2, 147);
        faulty(0, TEN + "link 1 2 10;", 2, 149);
        faulty(0, TEN + "link 1 2 99;", 2, 149);
        faulty(0, TEN + "link 01 1 2;", 2, 148);
    }

    private static void known() {
        KIT.of("knows: a PIECE, 0 .. 7, a SECRET, 0 .. 9;");
        String all = Kit.times("piece love 1;", 8) + TEN;
        due("the last PIECE KNOWS the last SECRET", taken(0, all + "knows 7 9;").house(0, 37), 512);
        due("the first PIECE KNOWS the first SECRET", taken(0, all + "knows 0 0;").house(0, 30), 1);
        faulty(0, all + "knows 8 0;", 2, 250);
        faulty(0, all + "knows 99 0;", 2, 250);
        faulty(0, all + "knows 0 10;", 2, 252);
        faulty(0, all + "knows 8 10;", 2, 250);
        KIT.of("All are further ones (what a PIECE KNOWS it KNOWS once).");
        TarnishTurns x = taken(0, "piece love 1;piece love 1;secret debt 2;secret debt 2;knows 1 0;knows 1 0;knows 1 1;");
        due("PIECES alike", x.house(0, 0), 2);
        due("SECRETS alike", x.house(0, 1), 2);
        due("KNOWS once", x.house(0, 31), 3);
        due("the other KNOWS nothing", x.house(0, 30), 0);
        due("DEEDS alike", taken(1, "hour;hour;").deed(0, NONE, 0), 2);
        due("DINNERS alike", taken(2, "dinner 1 1 1;dinner 1 1 1;").dinner(0, NONE, 0), 2);
        due("FACTS alike", taken(3, "shone 1 1;shone 1 1;").fact(0, NONE, 0), 2);
        due("as often as the tape has room for it", taken(0, "piece love 1;secret love 1;" + Kit.times("knows 0 0;", 57))
                .house(0, 30), 1);
    }

    private static void deeds() {
        KIT.of("A MONTH has DEEDS, at most 40, from 0 on.");
        for (String deed : new String[] {"tell 9 7;", "both 9 7 6;", "polish 7;", "steal 7;", "back 7;", "hour;"}) {
            taken(1, deed);
            TarnishTurns x = taken(1, Kit.times("hour;", 39) + deed);
            due("40 DEEDS, the last " + deed, x.deed(0, NONE, 0), 40);
            int number = deed.contains("9") ? 9 : deed.contains("7") ? 7 : NONE;
            due("the last one's first number, " + deed, x.deed(0, 39, 1), number);
            due("no 41st behind " + deed, x.deed(0, 40, 0), -2);
            faulty(1, Kit.times("hour;", 40) + deed, 3, 200);
            due("40 of " + deed, taken(1, Kit.times(deed, 40)).deed(0, NONE, 0), 40);
            faulty(1, Kit.times(deed, 41), 3, 40 * deed.length());
        }
        due("no DEEDS", taken(1, "").deed(0, NONE, 0), 0);
        KIT.of("(tell: a SECRET, a PIECE; both: a SECRET, two PIECES; polish and so on: a PIECE)");
        String[] first = {"tell 0 0;", "both 0 0 1;", "polish 0;", "steal 0;", "back 0;"};
        String[] last = {"tell 9 7;", "both 9 7 6;", "polish 7;", "steal 7;", "back 7;"};
        for (int i = 0; i < 5; i++) {
            taken(1, first[i]);
            taken(1, last[i]);
        }
        faulty(1, "tell 10 7;", 2, 5);
        faulty(1, "tell 9 8;", 2, 7);
        faulty(1, "tell 10 8;", 2, 5);
        faulty(1, "both 10 7 6;", 2, 5);
        faulty(1, "both 9 8 7;", 2, 7);
        faulty(1, "both 9 7 8;", 2, 9);
        faulty(1, "polish 8;", 2, 7);
        faulty(1, "steal 8;", 2, 6);
        faulty(1, "back 8;", 2, 5);
        KIT.of("of both the second PIECE, if it is the first");
        for (int p = 0; p < 8; p++) {
            faulty(1, "both " + p + " " + p + " " + p + ";", 2, 9);
            taken(1, "both " + p + " " + p + " " + (p + 1) % 8 + ";");
        }
        faulty(1, "both 0 8 8;", 2, 7);
    }

    private static void dinners() {
        KIT.of("DINNERS are at most 8, from 0 on");
        for (int n = 0; n <= 8; n++) {
            TarnishTurns x = taken(2, Kit.times("dinner 9 7 5;", n));
            due("DINNERS " + n, x.dinner(0, NONE, 0), n);
            due("the last DINNER of " + n, x.dinner(0, n - 1, 0), n == 0 ? 0 : 9);
            due("no more DINNERS than " + n, x.dinner(0, n, 0), -2);
        }
        faulty(2, Kit.times("dinner 9 7 5;", 9), 3, 104);
        KIT.of("an HOUR, 0 .. 60, no less than the one's ahead, a PIECE, 0 .. 7, LIGHT, 1 .. 60.");
        due("HOUR 0", taken(2, "dinner 0 0 1;").dinner(0, 0, 0), 0);
        due("HOUR 60", taken(2, "dinner 60 0 1;").dinner(0, 0, 0), 60);
        faulty(2, "dinner 61 0 1;", 2, 7);
        faulty(2, "dinner 99 0 1;", 2, 7);
        due("PIECE 0", taken(2, "dinner 0 0 1;").dinner(0, 0, 1), 0);
        due("PIECE 7", taken(2, "dinner 0 7 1;").dinner(0, 0, 1), 7);
        faulty(2, "dinner 0 8 1;", 2, 9);
        due("LIGHT 1", taken(2, "dinner 0 0 1;").dinner(0, 0, 2), 1);
        due("LIGHT 60", taken(2, "dinner 0 0 60;").dinner(0, 0, 2), 60);
        faulty(2, "dinner 0 0 0;", 2, 11);
        faulty(2, "dinner 0 0 00;", 2, 11);
        faulty(2, "dinner 0 0 61;", 2, 11);
        KIT.of("of dinner an HOUR less than the one's ahead");
        taken(2, "dinner 9 0 1;dinner 9 0 1;");
        taken(2, "dinner 59 0 1;dinner 60 0 1;dinner 60 0 1;");
        faulty(2, "dinner 9 0 1;dinner 8 0 1;", 2, 20);
        faulty(2, "dinner 1 0 1;dinner 0 0 1;", 2, 20);
        faulty(2, "dinner 60 0 1;dinner 59 0 1;", 2, 21);
        faulty(2, "dinner 5 0 1;dinner 7 0 1;dinner 6 0 1;", 2, 33);
        faulty(2, "dinner 8 0 1;dinner 9 0 1;dinner 61 0 1;", 2, 33);
    }

    private static void logs() {
        KIT.of("A LOG has FACTS, at most 8, from 0 on: a PIECE, 0 .. 7, SHONE, 0 .. 60 hours.");
        for (int n = 0; n <= 8; n++) {
            TarnishTurns x = taken(3, Kit.times("shone 7 60;", n));
            due("FACTS " + n, x.fact(0, NONE, 0), n);
            due("the last FACT of " + n, x.fact(0, n - 1, 0), n == 0 ? 0 : 7);
            due("no more FACTS than " + n, x.fact(0, n, 0), -2);
        }
        faulty(3, Kit.times("shone 7 60;", 9), 3, 88);
        due("PIECE 0", taken(3, "shone 0 0;").fact(0, 0, 0), 0);
        due("SHONE 0", taken(3, "shone 0 0;").fact(0, 0, 1), 0);
        due("PIECE 7", taken(3, "shone 7 0;").fact(0, 0, 0), 7);
        due("SHONE 60", taken(3, "shone 0 60;").fact(0, 0, 1), 60);
        faulty(3, "shone 8 0;", 2, 6);
        faulty(3, "shone 0 61;", 2, 8);
        faulty(3, "shone 99 99;", 2, 6);
    }

    private static void tape() {
        KIT.of("THE TAPE has at most 600 bytes.");
        String blanks = Kit.times(" ", 595);
        due("a text in the last bytes", taken(1, blanks + "hour;").deed(0, NONE, 0), 1);
        due("blanks up to the last byte", taken(1, "hour;" + blanks).deed(0, NONE, 0), 1);
        taken(1, Kit.times("\n", 600));
        faulty(1, blanks + "hours", 1, 595);
        faulty(1, Kit.times(" ", 596) + "hour", 1, 600);
        faulty(1, Kit.times(" ", 599) + "@", 1, 599);
        faulty(1, Kit.times(" ", 599) + ";", 1, 599);
        faulty(1, Kit.times("a", 600), 1, 0);
        faulty(1, Kit.times("7", 600), 1, 0);
        faulty(1, Kit.times(";", 600), 1, 0);
        faulty(1, Kit.times("hour;", 120), 3, 200);
        faulty(1, Kit.times("hour;", 119) + "tours", 1, 595);
        faulty(0, "knows 0 0;" + Kit.times(" ", 590), 4, 600);
        taken(0, "piece love 1;secret love 1;" + Kit.times(" ", 573));
        KIT.of("twenty bytes come behind it, of each number the highest first: how many it has.");
        TarnishTurns x = new TarnishTurns();
        for (int n = 20; n <= 600; n += 20) {
            due("feed to " + n, x.feed(0x686f7572, 0x3b686f75, 0x723b686f, 0x75723b68, 0x6f75723b), n);
        }
        due("feed to 620", x.feed(LEAST, MOST, 0, 0, 0), NONE);
        due("all 600 bytes are still as they were", x.text(1, NONE), NONE);
        due("they were 120 hours", x.fault(0), 3);
        due("the 41st", x.fault(1), 200);
        due("feed behind text()", x.feed(LEAST, MOST, -1, 0, 1), 20);
        due("a byte of 128 is no text", x.text(1, NONE), NONE);
        due("its place", x.fault(1), 0);
    }

    private static void tapeEnds() {
        KIT.of("The tape has its first n bytes alone: n.");
        for (int n = 0; n <= 20; n++) {
            TarnishTurns x = new TarnishTurns();
            x.feed(0x686f7572, 0x3b686f75, 0x723b686f, 0x75723b68, 0x6f75723b);
            due("end " + n, x.end(n), n);
            due("end " + n + ", no more", x.end(n + 1), NONE);
            due("end " + n + ", again", x.end(n), n);
            due("feed behind " + n, x.feed(0x20202020, 0x20202020, 0x20202020, 0x20202020, 0x20202020), n + 20);
            due("text of " + n, x.text(1, NONE), n % 5 == 0 ? 0 : NONE);
            due("DEEDS of " + n, x.deed(0, NONE, 0), n % 5 == 0 ? n / 5 : -2);
        }
        TarnishTurns x = new TarnishTurns();
        Kit.put(x, "hour;hour;");
        for (int n : new int[] {LEAST, LEAST + 1, -600, -1, 11, 600, 601, MOST - 1, MOST}) {
            due("end " + n, x.end(n), NONE);
        }
        due("as it was", x.text(1, NONE), 0);
        due("both hours", x.deed(0, NONE, 0), 2);
        due("end of an empty tape", x.end(0), 0);
        due("end of an empty tape, 1", x.end(1), NONE);
    }

    private static boolean isLetter(int b) {
        return b >= 'a' && b <= 'z';
    }

    private static boolean isDigit(int b) {
        return b >= '0' && b <= '9';
    }

    /** All 256 bytes at a place of a line: ahead of it, in a word, behind it, where a NUMBER goes, behind that. */
    private static void bytes() {
        KIT.of("TOKENS, as long as they go, blanks (10, 32) between");
        for (int b = 0; b < 256; b++) {
            char c = (char) b;
            boolean blank = b == 10 || b == 32;
            if (blank) {
                taken(1, c + "hour;");
                taken(1, "hour" + c + ";");
                taken(1, "hour;" + c);
                faulty(1, "ho" + c + "ur;", 1, 0);
                faulty(1, "back" + c + ";", 1, 5);
                faulty(1, "back 1" + c + "1;", 1, 7);
                faulty(2, "dinner" + c + "1" + c + "2" + c, 1, 11);
            } else {
                faulty(1, c + "hour;", 1, 0);
                faulty(1, "hour" + c + ";", 1, isLetter(b) ? 0 : b == ';' ? 5 : 4);
                faulty(1, "hour;" + c, 1, 5);
                faulty(1, "ho" + c + "ur;", 1, 0);
                byteForNumber(c);
            }
        }
    }

    private static void byteForNumber(char c) {
        if (isDigit(c)) {
            if (c < '8') {
                taken(1, "back" + c + ";");
            } else {
                faulty(1, "back " + c + ";", 2, 5);
            }
            taken(1, "steal 0" + (c < '8' ? c : '7') + ";");
            faulty(1, "back 00" + c + ";", 1, 5);
        } else {
            faulty(1, "back " + c + ";", 1, 5);
            faulty(1, "back 1" + c + ";", 1, c == ';' ? 7 : 6);
            faulty(1, "back 12" + c + ";", 1, c == ';' ? 8 : 7);
        }
    }

    private static void tokens() {
        KIT.of("words, rows of letters a .. z; NUMBERS, 1 or 2 digits; ; one byte.");
        taken(0, "piece love1;");
        faulty(0, "piecelove 1;", 1, 0);
        faulty(0, "piece love1debt;", 1, 11);
        taken(0, "piece love1;secret love1;knows0 0;");
        faulty(0, "piece love 1;secret love 1;knows00;", 1, 34);
        taken(1, "hour;hour ;\nhour\n; hour ; ");
        taken(1, "tell00 00;both 00 00 07;");
        faulty(1, "tell 000 0;", 1, 5);
        faulty(1, "tell 0 000;", 1, 7);
        for (int sort = 0; sort < 4; sort++) {
            for (String line : LINES[sort]) {
                spelling(sort, line.substring(0, line.replace(';', ' ').indexOf(' ')), line);
            }
        }
        faulty(1, "hour;;", 1, 5);
        faulty(1, ";", 1, 0);
        faulty(1, "hour; ;hour;", 1, 6);
        faulty(1, "0", 1, 0);
        KIT.of("(a longer row of digits is no token)");
        faulty(0, "piece love 100;", 1, 11);
        faulty(0, "piece love 0001;", 1, 11);
        faulty(2, "dinner 001 1 1;", 1, 7);
        faulty(2, "dinner 1 001 1;", 1, 9);
        faulty(2, "dinner 1 1 001;", 1, 11);
        faulty(2, "dinner 99 99 001;", 1, 13);
        faulty(3, "shone 007 1;", 1, 6);
        faulty(3, "shone 7 123456789012345678901234567890;", 1, 8);
        faulty(3, "shone 7 4294967297;", 1, 8);
    }

    /** A word of which any letter is another one, is left out, or is there twice, is another word. */
    private static void spelling(int sort, String word, String line) {
        for (int i = 0; i < word.length(); i++) {
            String behind = word.substring(i + 1) + line.substring(word.length());
            for (char c : new char[] {'a', 'q', 'z'}) {
                faulty(sort, word.substring(0, i) + (word.charAt(i) == c ? 'x' : c) + behind, 1, 0);
            }
            faulty(sort, word.substring(0, i) + behind, 1, 0);
            faulty(sort, word.substring(0, i + 1) + word.charAt(i) + behind, 1, 0);
        }
        faulty(sort, line.substring(word.length()), 1, line.equals("hour;") ? 0 : 1);
    }

    private static final String[][] LINES = {
        {"piece love 1;", "secret love 1;"},
        {"tell 1 1;", "both 1 1 2;", "polish 1;", "steal 1;", "back 1;", "hour;"},
        {"dinner 1 1 1;"},
        {"shone 1 1;"}};

    private static void grammar() {
        KIT.of("A HOUSE's text: {('piece' KIND NUMBER | 'secret' KIND NUMBER | 'knows' NUMBER NUMBER | "
                + "'link' NUMBER NUMBER NUMBER) ';'}");
        for (int sort = 0; sort < 4; sort++) {
            for (int of = 0; of < 4; of++) {
                for (String line : LINES[of]) {
                    if (sort == of) {
                        wholeLine(sort, line);
                    } else {
                        faulty(sort, line, 1, 0);
                    }
                }
            }
        }
        faulty(1, "knows 0 0;", 1, 0);
        faulty(1, "link 0 1 2;", 1, 0);
        for (String line : new String[] {"knows 0 0;", "link 0 1 2;"}) {
            wholeLine(0, "piece love 1;" + TEN + line);
        }
    }

    /** A line with a NUMBER too many, too few, without its end, with a word where a NUMBER goes. */
    private static void wholeLine(int sort, String line) {
        taken(sort, line);
        int end = line.length();
        String open = line.substring(0, end - 1);
        faulty(sort, open, 1, end - 1);
        faulty(sort, open + " ", 1, end);
        faulty(sort, open + " 1;", 1, end);
        faulty(sort, open + " love;", 1, end);
        if (!line.equals("hour;")) {
            int last = open.lastIndexOf(' ') + 1;
            faulty(sort, open.substring(0, last) + ";", 1, last);
            faulty(sort, open.substring(0, last) + "one;", 1, last);
        }
    }

    private static void parts() {
        KIT.of("FAULTS of all, with places (a token's first byte; the end's)");
        int[] places = {NONE, 0, 0, 0, 0, 5, 6, 6, 6, 6, 10, 11, 12, NONE, 13, 13, 13, 13, 13, 19, 20, 20, 20, 20, 24, 25,
            26, NONE};
        String text = "piece will 9;secret debt 5;";
        for (int n = 0; n <= text.length(); n++) {
            if (places[n] == NONE) {
                taken(0, text.substring(0, n));
            } else {
                faulty(0, text.substring(0, n), 1, places[n]);
            }
        }
    }

    private static void order() {
        KIT.of("1 the first byte or token with which no text goes on");
        faulty(0, "piece love 99;x", 1, 14);
        faulty(0, Kit.times("piece love 1;", 9) + "x", 1, 117);
        faulty(0, "knows 7 9;x", 1, 10);
        faulty(0, "x y", 1, 0);
        faulty(0, "piece x y", 1, 6);
        KIT.of("If there is none, the first by place, of one place the least: 2 a NUMBER that can't be (as above;");
        faulty(0, "piece love 99;" + Kit.times("piece love 1;", 8), 2, 11);
        faulty(0, Kit.times("piece love 1;", 8) + "piece love 99;", 3, 104);
        faulty(0, Kit.times("piece love 1;", 7) + "piece love 99;piece love 1;", 2, 102);
        faulty(0, "piece love 99;secret love 99;", 2, 11);
        faulty(0, Kit.times("piece love 1;", 9) + Kit.times("secret love 1;", 11), 3, 104);
        faulty(0, Kit.times("secret love 1;", 11) + Kit.times("piece love 1;", 9), 3, 140);
        faulty(0, "knows 8 10;", 2, 6);
        faulty(2, "dinner 61 8 61;", 2, 7);
        faulty(2, Kit.times("dinner 5 0 1;", 8) + "dinner 4 8 0;", 3, 104);
        faulty(2, Kit.times("dinner 5 0 1;", 7) + "dinner 4 0 1;dinner 4 0 1;", 2, 98);
        faulty(3, Kit.times("shone 0 0;", 8) + "shone 8 61;", 3, 80);
        faulty(3, Kit.times("shone 0 0;", 7) + "shone 0 61;shone 0 0;", 2, 78);
        KIT.of("a line with such a NUMBER tells its PIECE, SECRET, LINK, DEED, DINNER, FACT all the same");
        faulty(0, Kit.times("piece love 99;", 9), 2, 11);
        faulty(0, "piece love 99;secret love 1;knows 0 0;", 2, 11);
        faulty(1, "back 9;" + Kit.times("hour;", 40), 2, 5);
        KIT.of("3 a 9th PIECE, an 11th SECRET, a 9th LINK, a 41st DEED, a 9th DINNER, a 9th FACT, at its first token.");
        faulty(0, Kit.times("piece love 1;", 8) + "  piece love 1;", 3, 106);
        faulty(0, TEN + "\nsecret love 1;", 3, 141);
        faulty(0, TEN + Kit.times("link 0 1 2;", 8) + " link 0 1 2;", 3, 229);
        faulty(1, Kit.times("hour;", 40) + " back 0;", 3, 201);
        faulty(2, Kit.times("dinner 0 0 1;", 8) + " dinner 0 0 1;", 3, 105);
        faulty(3, Kit.times("shone 0 0;", 8) + " shone 0 0;", 3, 81);
        taken(0, Kit.times("piece love 1;", 8) + TEN + Kit.times("link 0 1 2;", 8) + Kit.times("knows 0 0;", 20));
    }

    private static void missing() {
        KIT.of("If there is none of these, at the end's place, of a HOUSE: 4 a PIECE, a SECRET that was told of "
                + "(by knows, link) and is not there.");
        for (int n = 0; n < 8; n++) {
            String pieces = Kit.times("piece love 1;", n) + "secret love 1;";
            String knows = "knows " + n + " 0;";
            faulty(0, pieces + knows, 4, 13 * n + 24);
            taken(0, pieces + knows + "piece love 1;");
            taken(0, knows + pieces + "piece love 1;");
        }
        for (int n = 0; n < 10; n++) {
            String secrets = "piece love 1;" + Kit.times("secret love 1;", n);
            String knows = "knows 0 " + n + ";";
            faulty(0, secrets + knows, 4, 14 * n + 23);
            taken(0, secrets + knows + "secret love 1;");
        }
        for (int n = 2; n < 10; n++) {
            String secrets = Kit.times("secret love 1;", n);
            faulty(0, "link " + n + " 0 1;" + secrets, 4, 14 * n + 11);
            faulty(0, "link 0 " + n + " 1;" + secrets, 4, 14 * n + 11);
            faulty(0, "link 0 1 " + n + ";" + secrets, 4, 14 * n + 11);
            taken(0, "link " + n + " 0 1;link 0 " + n + " 1;link 0 1 " + n + ";" + secrets + "secret love 1;");
        }
        faulty(0, "knows 0 0;\n\n", 4, 12);
        faulty(0, "piece love 1;piece love 10;knows 7 9;", 2, 24);
        faulty(0, "knows 7 9;secret love 0;", 2, 22);
        taken(1, "tell 9 7;both 9 6 7;steal 7;");
        taken(2, "dinner 0 7 1;");
        taken(3, "shone 7 1;");
    }

    private static void places() {
        KIT.of("HOUSES, at most 2 (sort 0), MONTHS, at most 2 (1), DINNERS, at most 2 texts of them (2), "
                + "LOGS, at most 2 (3), from 0 on.");
        TarnishTurns x = new TarnishTurns();
        for (int sort = 0; sort < 4; sort++) {
            for (int n = 0; n < 2; n++) {
                due("count " + sort, x.count(sort), n);
                due("text in no place " + sort, x.text(sort, n), -2);
                due("text " + sort, x.text(sort, NONE), n);
            }
            due("a third " + sort, x.text(sort, NONE), -2);
            due("no third " + sort, x.count(sort), 2);
        }
        KIT.of("a further one (at NONE), or in the place of one: its number. NONE: a FAULT.");
        for (int sort = 0; sort < 4; sort++) {
            for (int at = 0; at < 2; at++) {
                inPlace(sort, at);
            }
        }
    }

    private static int lines(TarnishTurns x, int sort, int at) {
        return sort == 0 ? x.house(at, 0) : sort == 1 ? x.deed(at, NONE, 0)
                : sort == 2 ? x.dinner(at, NONE, 0) : x.fact(at, NONE, 0);
    }

    private static void inPlace(int sort, int at) {
        TarnishTurns x = new TarnishTurns();
        String line = LINES[sort][0];
        Kit.tell(x, sort, line);
        Kit.tell(x, sort, line + line);
        Kit.put(x, line + line + line);
        due("text in place " + at + " of sort " + sort, x.text(sort, at), at);
        due("the new one " + at + " of sort " + sort, lines(x, sort, at), 3);
        due("the other one " + at + " of sort " + sort, lines(x, sort, 1 - at), 2 - at);
        due("count " + sort, x.count(sort), 2);
        Kit.put(x, line + "1");
        due("a FAULT in place " + at + " of sort " + sort, x.text(sort, at), NONE);
        due("its FAULT", x.fault(0), 1);
        due("its place", x.fault(1), line.length());
        due("as it was " + at + " of sort " + sort, lines(x, sort, at), 3);
        due("the other one stays " + at + " of sort " + sort, lines(x, sort, 1 - at), 2 - at);
        due("the tape is taken", x.end(1), NONE);
        Kit.put(x, "");
        due("without lines in place " + at + " of sort " + sort, x.text(sort, at), at);
        due("nothing of the old one " + at + " of sort " + sort, lines(x, sort, at), 0);
        due("FAULT 0", x.fault(0), 0);
        due("no place", x.fault(1), NONE);
        Kit.put(x, line);
        due("one line in place " + at + " of sort " + sort, x.text(sort, at), at);
        due("one line alone " + at + " of sort " + sort, lines(x, sort, at), 1);
    }

    private static void takenTapes() {
        KIT.of("The tape is taken (and is empty then) as a text of a sort");
        for (int sort = -1; sort < 5; sort++) {
            for (int at = -2; at < 3; at++) {
                for (String text : new String[] {"", "x", "hour;", Kit.times("hour;", 41), Kit.times(" ", 600)}) {
                    TarnishTurns x = Kit.with("", "", "", "");
                    Kit.put(x, text);
                    x.text(sort, at);
                    due("text(" + sort + ", " + at + ") of " + text, x.end(1), NONE);
                    due("feed behind text(" + sort + ", " + at + ")", x.feed(0, 0, 0, 0, 0), 20);
                }
            }
        }
        KIT.of("The constants: `NONE = -1`: There is none.");
        due("NONE", TarnishTurns.NONE, -1);
    }

    private static void inPlaceOfHouse() {
        KIT.of("or in the place of one: its number.");
        TarnishTurns x = taken(0, Kit.SILVER);
        Kit.put(x, "piece death 7;secret debt 8;secret debt 9;secret debt 10;");
        due("in the place of SILVER", x.text(0, 0), 0);
        int[] whats = {0, 1, 2, 10, 11, 20, 30, 31, 40, 43, 50, 52, 53, 60, 70, 80};
        int[] wants = {1, 3, 0, 2, NONE, 7, 0, NONE, 1, NONE, 8, 10, NONE, NONE, NONE, NONE};
        for (int i = 0; i < whats.length; i++) {
            due("what " + whats[i], x.house(0, whats[i]), wants[i]);
        }
        due("no LINK is left", x.comes(0, 3), 3);
        due("nothing is KNOWN", x.theft(0, 8, false), 0);
        Kit.put(x, Kit.SILVER);
        due("SILVER again", x.text(0, 0), 0);
        due("its LINKS", x.comes(0, 3), 7);
        due("what is KNOWN", x.house(0, 31), 6);
        due("what the first KNOWS", x.house(0, 30), 2);
        due("what the last KNOWS", x.house(0, 32), 0);
    }

    private static void latest() {
        KIT.of("Of the latest text(), what 0: the FAULT, 0 without, 1: its place, NONE without.");
        TarnishTurns x = new TarnishTurns();
        due("FAULT of a new object", x.fault(0), 0);
        due("place of a new object", x.fault(1), NONE);
        for (String[] row : new String[][] {{"x", "1", "0"}, {"back 9;", "2", "5"}, {"hour;", "0", "-1"},
            {Kit.times("hour;", 41), "3", "200"}, {"hour", "1", "4"}, {"", "0", "-1"}, {"back 8;", "2", "5"}}) {
            Kit.put(x, row[0]);
            x.text(1, x.count(1) == 0 ? NONE : 0);
            due("FAULT of " + row[0], x.fault(0), Integer.parseInt(row[1]));
            due("place of " + row[0], x.fault(1), Integer.parseInt(row[2]));
        }
        x.feed(0, 0, 0, 0, 0);
        x.end(700);
        x.state(0, 0, 99, 99);
        due("FAULT behind other calls", x.fault(0), 2);
        due("place behind other calls", x.fault(1), 5);
        due("text of no sort", x.text(4, NONE), -2);
        due("FAULT behind -2", x.fault(0), 0);
        due("place behind -2", x.fault(1), NONE);
        for (int what : new int[] {LEAST, -2, -1, 2, 3, 10, MOST}) {
            due("fault " + what, x.fault(what), NONE);
        }
    }

    public static void main(String[] args) {
        pieces();
        secrets();
        kinds();
        links();
        known();
        deeds();
        dinners();
        logs();
        tape();
        tapeEnds();
        bytes();
        tokens();
        grammar();
        parts();
        order();
        missing();
        places();
        takenTapes();
        inPlaceOfHouse();
        latest();
        KIT.finish();
    }
}
