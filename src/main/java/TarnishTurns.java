import java.util.Arrays;

/**
 * Tarnish by turns: houses, months, dinners and logs, told as texts on a tape, and what comes of them.
 * No call throws, and none but image() makes an object after the constructor.
 */
public final class TarnishTurns {
    public static final int NONE = -1;

    private static final int NO_SUCH = -2;

    private static final int TAPE_BYTES = 600;
    private static final int FEED_BYTES = 20;
    private static final int IMAGES = 3;

    private static final int SORTS = 4;
    private static final int TEXTS = 2;
    private static final int HOUSE_SORT = 0;
    private static final int MONTH_SORT = 1;
    private static final int DINNER_SORT = 2;
    private static final int LOG_SORT = 3;

    private static final int PIECES = 8;
    private static final int PIECE_SETS = 256;
    private static final int SECRETS = 10;
    private static final int SECRET_SETS = 1024;
    private static final int LINKS = 8;
    private static final int DEEDS = 40;
    private static final int DINNERS = 8;
    private static final int FACTS = 8;
    private static final int KINDS = 4;
    private static final int WEIGHTS = 30;

    private static final int HOURS = 60;
    private static final int LATEST_HOUR = 99;
    private static final int LIGHTS = 60;
    private static final int EVENING_WEIGHTS = 99;
    private static final int CUTS = 3;
    private static final int DRAWS = 60;
    private static final int GLOSS = 5;

    private static final int PIECE = 0;
    private static final int SECRET = 1;
    private static final int KNOWS = 2;
    private static final int LINK = 3;
    private static final int TELL = 4;
    private static final int BOTH = 5;
    private static final int POLISH = 6;
    private static final int STEAL = 7;
    private static final int BACK = 8;
    private static final int HOUR = 9;
    private static final int DINNER = 10;
    private static final int SHONE = 11;

    /** The first verb of each sort of text, and the number behind the last verb. */
    private static final int[] VERBS_FROM = {0, 4, 10, 11, 12};

    /** How many NUMBERS a verb has. */
    private static final int[] NUMBERS = {1, 1, 2, 3, 2, 3, 1, 1, 1, 0, 3, 2};

    /** How many lines of a verb there may be: knows has no bound but the tape's. */
    private static final int[] LIMITS = {8, 10, 600, 8, 40, 40, 40, 40, 40, 40, 8, 8};

    /** The least of each verb's three NUMBERS. */
    private static final int[] LEAST = {
        0, 0, 0, 1, 0, 0, 0, 0, 0, 0, 0, 0,
        0, 0, 0, 0, 0, 0, 0, 0, 0, 0, 0, 0, 0, 0, 0, 0, 0, 0,
        0, 0, 1, 0, 0, 0};

    /** The greatest of each verb's three NUMBERS. */
    private static final int[] MOST = {
        9, 0, 0, 30, 0, 0, 7, 9, 0, 9, 9, 9,
        9, 7, 0, 9, 7, 7, 7, 0, 0, 7, 0, 0, 7, 0, 0, 0, 0, 0,
        60, 7, 60, 7, 60, 0};

    private final Told told;
    private final Told[] images;
    private final Reader reader;
    private final Course course;
    private final Table table;
    private final Nights nights;
    private final Guess guess;
    private final Thieves thieves;

    public TarnishTurns() {
        told = new Told();
        images = new Told[IMAGES];
        reader = new Reader();
        course = new Course();
        table = new Table();
        nights = new Nights();
        guess = new Guess();
        thieves = new Thieves();
    }

    public int feed(int a, int b, int c, int d, int e) {
        if (told.length + FEED_BYTES > TAPE_BYTES) {
            return NONE;
        }
        told.append(a);
        told.append(b);
        told.append(c);
        told.append(d);
        told.append(e);
        return told.length;
    }

    public int end(int n) {
        if (n < 0 || n > told.length) {
            return NONE;
        }
        told.length = n;
        return n;
    }

    public int text(int sort, int at) {
        int length = told.length;
        told.length = 0;
        told.fault = 0;
        told.place = NONE;
        if (sort < 0 || sort >= SORTS) {
            return NO_SUCH;
        }
        int number = at == NONE ? told.counts[sort] : at;
        int bound = at == NONE ? TEXTS : told.counts[sort];
        if (number < 0 || number >= bound) {
            return NO_SUCH;
        }
        reader.read(told.tape, length, sort);
        told.fault = reader.fault;
        told.place = reader.place;
        if (reader.fault != 0) {
            return NONE;
        }
        takeText(sort, number);
        return number;
    }

    private void takeText(int sort, int number) {
        if (number >= told.counts[sort]) {
            told.counts[sort] = number + 1;
        }
        if (sort == HOUSE_SORT) {
            reader.fillHouse(told.houseAt(number));
        } else {
            reader.fillRows(told.rowsAt(sort, number));
        }
    }

    public int fault(int what) {
        if (what == 0) {
            return told.fault;
        }
        return what == 1 ? told.place : NONE;
    }

    public int house(int house, int what) {
        House h = told.houseAt(house);
        if (h == null || what < 0) {
            return NONE;
        }
        switch (what) {
            case 0:
                return h.pieces;
            case 1:
                return h.secrets;
            case 2:
                return h.links;
            default:
                return h.detail(what / 10, what % 10);
        }
    }

    public int worth(int house, int secret, int piece) {
        House h = told.houseAt(house);
        if (h == null || !h.hasSecret(secret) || !h.hasPiece(piece)) {
            return NONE;
        }
        return h.worthTo(secret, piece);
    }

    public int deed(int month, int k, int what) {
        Rows rows = told.rowsAt(MONTH_SORT, month);
        if (rows == null) {
            return NO_SUCH;
        }
        if (k == NONE) {
            return what == 0 ? rows.size : NO_SUCH;
        }
        if (!rows.hasRow(k) || what < 0 || what > 3) {
            return NO_SUCH;
        }
        int cell = rows.cell(k, what);
        return what == 0 ? cell - TELL : cell;
    }

    public int till(int house, int month) {
        House h = told.houseAt(house);
        Rows rows = told.rowsAt(MONTH_SORT, month);
        if (h == null || rows == null) {
            return NONE;
        }
        return course.follow(h, rows, rows.size);
    }

    public int state(int house, int month, int n, int what) {
        House h = told.houseAt(house);
        Rows rows = told.rowsAt(MONTH_SORT, month);
        if (h == null || rows == null || n < 0 || n > rows.size) {
            return NO_SUCH;
        }
        return course.follow(h, rows, n) == n ? course.look(what) : NO_SUCH;
    }

    public int dinner(int dinners, int k, int what) {
        return rowNumber(told.rowsAt(DINNER_SORT, dinners), k, what, 3);
    }

    /** A row's number, or how many rows there are: dinner() and fact() are asked alike. */
    private static int rowNumber(Rows rows, int k, int what, int numbers) {
        if (rows == null) {
            return NO_SUCH;
        }
        if (k == NONE) {
            return what == 0 ? rows.size : NO_SUCH;
        }
        if (!rows.hasRow(k) || what < 0 || what >= numbers) {
            return NO_SUCH;
        }
        return rows.cell(k, what + 1);
    }

    public int served(int house, int dinners, int k) {
        House h = told.houseAt(house);
        Rows rows = told.rowsAt(DINNER_SORT, dinners);
        if (h == null || rows == null || !h.hasPieces(rows, 2)) {
            return NONE;
        }
        if (k == -2) {
            return table.longestServed(h, rows);
        }
        if (k != NONE && !rows.hasRow(k)) {
            return NONE;
        }
        int fewest = table.fewestServing(h, rows);
        if (fewest == NONE || k == NONE) {
            return fewest;
        }
        return table.toldAhead(h, rows, fewest, k);
    }

    public int comes(int house, int secrets) {
        House h = told.houseAt(house);
        if (h == null || !h.hasSecrets(secrets)) {
            return NONE;
        }
        return h.closure(secrets, NONE);
    }

    public int keep(int house, int secret, boolean find) {
        House h = told.houseAt(house);
        if (h == null || !h.hasSecret(secret)) {
            return NONE;
        }
        return find ? h.fewestGiving(secret) : h.fewestKept(secret);
    }

    public int theft(int house, int n, boolean pieces) {
        House h = told.houseAt(house);
        if (h == null || n < 0 || n > PIECES) {
            return NONE;
        }
        thieves.spoil(h);
        int best = thieves.bestPieces(h.allPieces(), n);
        return pieces ? best : thieves.got(best);
    }

    public int evenings(int house, int weight) {
        House h = told.houseAt(house);
        if (h == null || !h.mayBeTold(weight)) {
            return NONE;
        }
        return nights.fewest(h, weight);
    }

    public long hidden(int house, int secret, int n, boolean under) {
        House h = told.houseAt(house);
        if (h == null || !h.hasSecret(secret) || n < 0 || n > h.secrets) {
            return NONE;
        }
        return fractionPart(h.countHiding(secret, n), h.countSets(n), under);
    }

    public int heirs(int house, boolean by) {
        House h = told.houseAt(house);
        if (h == null) {
            return NONE;
        }
        int share = h.evenestShare();
        return by ? h.shareGap(share) : share;
    }

    public int fact(int log, int k, int what) {
        return rowNumber(told.rowsAt(LOG_SORT, log), k, what, 2);
    }

    public int fits(int house, int log, int what) {
        House h = told.houseAt(house);
        Rows rows = told.rowsAt(LOG_SORT, log);
        if (h == null || rows == null || !h.hasPieces(rows, 1)) {
            return NO_SUCH;
        }
        guess.gather(h, rows);
        switch (what) {
            case 0:
                return guess.size;
            case 1:
                return guess.sureKind();
            case 2:
                return guess.sureWeight();
            case 3:
                return guess.fittingSecrets(h);
            case 4:
                return guess.bestAsked(h);
            default:
                return what >= 10 && guess.hasFit(what - 10) ? guess.codes[what - 10] : NO_SUCH;
        }
    }

    public int drawn(int house, int seed, int n, int what) {
        House h = told.houseAt(house);
        if (h == null || n < 0 || n > DRAWS) {
            return NO_SUCH;
        }
        course.draw(h, seed, n);
        return course.look(what);
    }

    public int lasting(int house, int piece, int n, boolean much) {
        House h = told.houseAt(house);
        if (h == null || !h.hasPiece(piece) || h.secrets == 0 || n < 0 || n > HOURS) {
            return NONE;
        }
        int best = h.longestShining(piece, n);
        return much ? h.shineBehind(best, piece, n) : best;
    }

    public int lit(int house, int light) {
        House h = told.houseAt(house);
        if (h == null || light < 1 || light > LIGHTS) {
            return NONE;
        }
        int sum = 0;
        for (int s = 0; s < h.secrets; s++) {
            sum += h.longestLit(s, light);
        }
        return sum;
    }

    public int dusky(int house, int secret, boolean hours) {
        House h = told.houseAt(house);
        if (h == null || !h.hasSecret(secret) || h.pieces < 2) {
            return NONE;
        }
        int couple = h.duskiestCouple(secret);
        return hours ? h.duskHours(secret, couple / 10, couple % 10) : couple;
    }

    public int fitter(int house, boolean much) {
        House h = told.houseAt(house);
        if (h == null || h.pieces == 0) {
            return NONE;
        }
        int best = h.fittestTaste();
        return much ? h.worthOfAll(best / 10, best % 10) : best;
    }

    public int unlike(int one, int other) {
        House h = told.houseAt(one);
        House g = told.houseAt(other);
        if (h == null || g == null) {
            return NONE;
        }
        int pieces = Math.min(h.pieces, g.pieces);
        int secrets = Math.min(h.secrets, g.secrets);
        int sum = 0;
        for (int s = 0; s < secrets; s++) {
            for (int p = 0; p < pieces; p++) {
                sum += h.worthTo(s, p) == g.worthTo(s, p) ? 0 : 1;
            }
        }
        return sum;
    }

    public int spread(int house, int what) {
        House h = told.houseAt(house);
        if (h == null) {
            return NONE;
        }
        switch (what) {
            case 0:
                return h.knownBy(h.pieces);
            case 1:
                return h.knownBy(0);
            case 2:
                return h.knownBy(1);
            default:
                return NONE;
        }
    }

    public int depth(int house, int secrets, int secret) {
        House h = told.houseAt(house);
        if (h == null || !h.hasSecrets(secrets) || !h.hasSecret(secret)) {
            return NONE;
        }
        return h.roundsTo(secrets, secret);
    }

    public int spare(int house) {
        House h = told.houseAt(house);
        return h == null ? NONE : h.spareLinks();
    }

    public int guarded(int house, int g, int n, boolean which) {
        House h = told.houseAt(house);
        if (h == null || g < 0 || g > PIECES || n < 0 || n > PIECES) {
            return NONE;
        }
        thieves.spoil(h);
        int guards = thieves.bestGuards(h.allPieces(), g, n);
        return which ? guards : thieves.got(thieves.bestPieces(h.allPieces() & ~guards, n));
    }

    public int evening(int house, int weight, int secret) {
        House h = told.houseAt(house);
        if (h == null || !h.mayBeTold(weight) || !h.hasSecret(secret)) {
            return NONE;
        }
        return nights.whenTold(h, weight, secret);
    }

    public long leaks(int house, int n, boolean under) {
        House h = told.houseAt(house);
        if (h == null || n < 0 || n > h.secrets) {
            return NONE;
        }
        return fractionPart(h.weightLeaking(n), h.countSets(n), under);
    }

    public int cut(int house, int n, boolean which) {
        House h = told.houseAt(house);
        if (h == null || n < 0 || n > CUTS) {
            return NONE;
        }
        int taken = h.bestTakenAway(n);
        return which ? taken : h.weightKeptOut(taken);
    }

    public int after(int house, int month, int what) {
        House h = told.houseAt(house);
        Rows rows = told.rowsAt(MONTH_SORT, month);
        if (h == null || rows == null) {
            return NO_SUCH;
        }
        course.follow(h, rows, rows.size);
        switch (what) {
            case 0:
                return course.star();
            case 1:
                return course.dark;
            case 2:
                return course.dusked;
            case 3:
                return course.greatest;
            default:
                return NO_SUCH;
        }
    }

    public int would(int house, int log, int k, int piece) {
        House h = told.houseAt(house);
        Rows rows = told.rowsAt(LOG_SORT, log);
        if (h == null || rows == null || !h.hasPieces(rows, 1) || !h.hasPiece(piece)) {
            return NONE;
        }
        guess.gather(h, rows);
        return guess.hasFit(k) ? h.hoursTold(guess.codes[k], piece) : NONE;
    }

    public int count(int sort) {
        return sort < 0 || sort >= SORTS ? NO_SUCH : told.counts[sort];
    }

    public boolean image(int k) {
        if (k < 0 || k >= IMAGES) {
            return false;
        }
        if (images[k] == null) {
            images[k] = new Told();
        }
        images[k].copyFrom(told);
        return true;
    }

    public boolean again(int k) {
        if (k < 0 || k >= IMAGES || images[k] == null) {
            return false;
        }
        told.copyFrom(images[k]);
        return true;
    }

    /** N or D of a fraction in least terms. */
    private static long fractionPart(long above, long below, boolean under) {
        long a = above;
        long b = below;
        // Euclid's rests at least halve in two steps: 128 steps are enough for any two longs.
        for (int step = 0; step < 128 && b != 0; step++) {
            long rest = a % b;
            a = b;
            b = rest;
        }
        long part = under ? below : above;
        return a == 0 ? part : part / a;
    }

    private static boolean hasBit(int bits, int k) {
        return (bits >> k & 1) != 0;
    }

    /** Hours until no SHINE is left: 60, if more, or if nothing wears it off. */
    private static int hoursLeft(int shine, int wear) {
        if (shine <= 0) {
            return 0;
        }
        return wear <= 0 ? HOURS : Math.min(HOURS, (shine + wear - 1) / wear);
    }

    private static int worthOf(int weight, boolean liked, boolean known) {
        int full = liked ? 2 * weight : weight;
        return known ? full / 2 : full;
    }

    private static int kindOfCode(int code) {
        return code / WEIGHTS;
    }

    private static int weightOfCode(int code) {
        return code % WEIGHTS + 1;
    }

    /** All that is told: what an image holds. */
    private static final class Told {
        final byte[] tape = new byte[TAPE_BYTES];
        int length = 0;
        int fault = 0;
        int place = NONE;
        final int[] counts = new int[SORTS];
        final House[] houses = new House[TEXTS];
        final Rows[] months = new Rows[TEXTS];
        final Rows[] dinners = new Rows[TEXTS];
        final Rows[] logs = new Rows[TEXTS];

        Told() {
            for (int i = 0; i < TEXTS; i++) {
                houses[i] = new House();
                months[i] = new Rows(DEEDS);
                dinners[i] = new Rows(DINNERS);
                logs[i] = new Rows(FACTS);
            }
        }

        void append(int number) {
            for (int shift = 24; shift >= 0 && length < TAPE_BYTES; shift -= 8) {
                tape[length] = (byte) (number >> shift);
                length++;
            }
        }

        House houseAt(int number) {
            return number < 0 || number >= counts[HOUSE_SORT] ? null : houses[number];
        }

        Rows rowsAt(int sort, int number) {
            if (sort < 0 || sort >= SORTS || number < 0 || number >= counts[sort]) {
                return null;
            }
            switch (sort) {
                case MONTH_SORT:
                    return months[number];
                case DINNER_SORT:
                    return dinners[number];
                case LOG_SORT:
                    return logs[number];
                default:
                    return null;
            }
        }

        void copyFrom(Told other) {
            System.arraycopy(other.tape, 0, tape, 0, TAPE_BYTES);
            length = other.length;
            fault = other.fault;
            place = other.place;
            System.arraycopy(other.counts, 0, counts, 0, SORTS);
            for (int i = 0; i < TEXTS; i++) {
                houses[i].copyFrom(other.houses[i]);
                months[i].copyFrom(other.months[i]);
                dinners[i].copyFrom(other.dinners[i]);
                logs[i].copyFrom(other.logs[i]);
            }
        }
    }

    /** The lines of a MONTH, of DINNERS or of a LOG: a verb and up to three numbers each. */
    private static final class Rows {
        static final int WIDTH = 4;

        final int limit;
        final int[] cells;
        int size = 0;

        Rows(int limit) {
            this.limit = Math.max(0, Math.min(limit, DEEDS));
            this.cells = new int[this.limit * WIDTH];
        }

        boolean hasRow(int k) {
            return k >= 0 && k < size;
        }

        int cell(int k, int column) {
            return hasRow(k) && column >= 0 && column < WIDTH ? cells[k * WIDTH + column] : NONE;
        }

        void add(int verb, int one, int two, int three) {
            if (size >= limit) {
                return;
            }
            int at = size * WIDTH;
            cells[at] = verb;
            cells[at + 1] = one;
            cells[at + 2] = two;
            cells[at + 3] = three;
            size++;
        }

        void copyFrom(Rows other) {
            size = Math.min(other.size, limit);
            System.arraycopy(other.cells, 0, cells, 0, size * WIDTH);
        }
    }

    /** A HOUSE as told, and what can be said of it alone. */
    private static final class House {
        int pieces = 0;
        int secrets = 0;
        int links = 0;
        final int[] taste = new int[PIECES];
        final int[] wear = new int[PIECES];
        final int[] knows = new int[PIECES];
        final int[] kind = new int[SECRETS];
        final int[] weight = new int[SECRETS];
        final int[] first = new int[LINKS];
        final int[] second = new int[LINKS];
        final int[] third = new int[LINKS];

        void empty() {
            pieces = 0;
            secrets = 0;
            links = 0;
            Arrays.fill(knows, 0);
        }

        void addPiece(int itsTaste, int itsWear) {
            if (pieces < PIECES) {
                taste[pieces] = itsTaste;
                wear[pieces] = itsWear;
                pieces++;
            }
        }

        void addSecret(int itsKind, int itsWeight) {
            if (secrets < SECRETS) {
                kind[secrets] = itsKind;
                weight[secrets] = itsWeight;
                secrets++;
            }
        }

        void addKnown(int piece, int secret) {
            if (piece >= 0 && piece < PIECES) {
                knows[piece] |= 1 << secret;
            }
        }

        void addLink(int one, int two, int made) {
            if (links < LINKS) {
                first[links] = one;
                second[links] = two;
                third[links] = made;
                links++;
            }
        }

        void copyFrom(House other) {
            pieces = other.pieces;
            secrets = other.secrets;
            links = other.links;
            System.arraycopy(other.taste, 0, taste, 0, PIECES);
            System.arraycopy(other.wear, 0, wear, 0, PIECES);
            System.arraycopy(other.knows, 0, knows, 0, PIECES);
            System.arraycopy(other.kind, 0, kind, 0, SECRETS);
            System.arraycopy(other.weight, 0, weight, 0, SECRETS);
            System.arraycopy(other.first, 0, first, 0, LINKS);
            System.arraycopy(other.second, 0, second, 0, LINKS);
            System.arraycopy(other.third, 0, third, 0, LINKS);
        }

        boolean hasPiece(int piece) {
            return piece >= 0 && piece < pieces;
        }

        boolean hasSecret(int secret) {
            return secret >= 0 && secret < secrets;
        }

        boolean hasSecrets(int bits) {
            return bits >= 0 && bits < secretSets();
        }

        /** Whether all PIECES are there that stand in a column of rows. */
        boolean hasPieces(Rows rows, int column) {
            for (int k = 0; k < rows.size; k++) {
                if (!hasPiece(rows.cell(k, column))) {
                    return false;
                }
            }
            return true;
        }

        int secretSets() {
            return 1 << secrets;
        }

        int allSecrets() {
            return secretSets() - 1;
        }

        int allPieces() {
            return (1 << pieces) - 1;
        }

        int detail(int row, int k) {
            if (row <= 3) {
                return hasPiece(k) ? pieceDetail(row, k) : NONE;
            }
            if (row <= 5) {
                return hasSecret(k) ? secretDetail(row, k) : NONE;
            }
            return k >= 0 && k < links ? linkDetail(row, k) : NONE;
        }

        private int pieceDetail(int row, int p) {
            switch (row) {
                case 1:
                    return taste[p];
                case 2:
                    return wear[p];
                case 3:
                    return knows[p];
                default:
                    return NONE;
            }
        }

        private int secretDetail(int row, int s) {
            return row == 4 ? kind[s] : weight[s];
        }

        private int linkDetail(int row, int l) {
            switch (row) {
                case 6:
                    return first[l];
                case 7:
                    return second[l];
                case 8:
                    return third[l];
                default:
                    return NONE;
            }
        }

        int worthTo(int s, int p) {
            return worthIfTaste(s, p, taste[p]);
        }

        int worthIfTaste(int s, int p, int itsTaste) {
            return worthOf(weight[s], kind[s] == itsTaste, hasBit(knows[p], s));
        }

        int weightOf(int bits) {
            int sum = 0;
            for (int s = 0; s < secrets; s++) {
                sum += hasBit(bits, s) ? weight[s] : 0;
            }
            return sum;
        }

        private boolean makes(int l, int known) {
            return hasBit(known, first[l]) && hasBit(known, second[l]);
        }

        /** What COMES of SECRETS by all LINKS but one (NONE: by all). */
        int closure(int bits, int without) {
            int known = bits;
            // A round that changes something adds a SECRET: there are no more rounds than SECRETS.
            for (int round = 0; round <= SECRETS; round++) {
                int ahead = known;
                for (int l = 0; l < links; l++) {
                    if (l != without && makes(l, known)) {
                        known |= 1 << third[l];
                    }
                }
                if (known == ahead) {
                    break;
                }
            }
            return known;
        }

        /** DEPTH: unlike closure(), a round goes by what was known ahead of the whole round. */
        int roundsTo(int bits, int secret) {
            int known = bits;
            for (int round = 0; round <= SECRETS; round++) {
                if (hasBit(known, secret)) {
                    return round;
                }
                int next = known;
                for (int l = 0; l < links; l++) {
                    if (makes(l, known)) {
                        next |= 1 << third[l];
                    }
                }
                known = next;
            }
            return NONE;
        }

        /** A LINK is spare if the others make its third SECRET known of its two: then they do so in every set. */
        int spareLinks() {
            int spare = 0;
            for (int l = 0; l < links; l++) {
                int two = 1 << first[l] | 1 << second[l];
                if (hasBit(closure(two, l), third[l])) {
                    spare |= 1 << l;
                }
            }
            return spare;
        }

        int fewestKept(int secret) {
            int best = NONE;
            int fewest = SECRETS + 1;
            for (int kept = 0; kept < secretSets(); kept++) {
                int size = Integer.bitCount(kept);
                if (size < fewest && hasBit(kept, secret)
                        && !hasBit(closure(allSecrets() & ~kept, NONE), secret)) {
                    best = kept;
                    fewest = size;
                }
            }
            return best;
        }

        int fewestGiving(int secret) {
            int best = NONE;
            int fewest = SECRETS + 1;
            for (int given = 0; given < secretSets(); given++) {
                int size = Integer.bitCount(given);
                if (size < fewest && !hasBit(given, secret) && hasBit(closure(given, NONE), secret)) {
                    best = given;
                    fewest = size;
                }
            }
            return best;
        }

        boolean mayBeTold(int mostWeight) {
            if (mostWeight < 1 || mostWeight > EVENING_WEIGHTS) {
                return false;
            }
            for (int s = 0; s < secrets; s++) {
                if (weight[s] > mostWeight) {
                    return false;
                }
            }
            return true;
        }

        int countSets(int n) {
            int sum = 0;
            for (int bits = 0; bits < secretSets(); bits++) {
                sum += Integer.bitCount(bits) == n ? 1 : 0;
            }
            return sum;
        }

        int countHiding(int secret, int n) {
            int sum = 0;
            for (int bits = 0; bits < secretSets(); bits++) {
                if (Integer.bitCount(bits) == n && !hasBit(closure(bits, NONE), secret)) {
                    sum++;
                }
            }
            return sum;
        }

        int weightLeaking(int n) {
            int sum = 0;
            for (int bits = 0; bits < secretSets(); bits++) {
                if (Integer.bitCount(bits) == n) {
                    sum += weightOf(closure(bits, NONE));
                }
            }
            return sum;
        }

        int weightKeptOut(int taken) {
            return weightOf(allSecrets() & ~closure(allSecrets() & ~taken, NONE));
        }

        int bestTakenAway(int n) {
            int best = 0;
            int most = 0;
            for (int taken = 1; taken < secretSets(); taken++) {
                int size = Integer.bitCount(taken);
                if (size > n) {
                    continue;
                }
                int out = weightKeptOut(taken);
                if (out > most || out == most && size < Integer.bitCount(best)) {
                    best = taken;
                    most = out;
                }
            }
            return best;
        }

        int shareGap(int share) {
            int gap = 0;
            for (int p = 0; p < pieces; p++) {
                int sum = weightOf(knows[p]);
                gap += hasBit(share, p) ? sum : -sum;
            }
            return Math.abs(gap);
        }

        int evenestShare() {
            int best = 0;
            int least = shareGap(0);
            for (int share = 1; share <= allPieces(); share++) {
                int gap = shareGap(share);
                if (gap < least) {
                    best = share;
                    least = gap;
                }
            }
            return best;
        }

        int shineBehind(int s, int p, int hours) {
            return Math.max(0, worthTo(s, p) - hours * wear[p]);
        }

        int longestShining(int piece, int hours) {
            int best = 0;
            for (int s = 1; s < secrets; s++) {
                if (shineBehind(s, piece, hours) > shineBehind(best, piece, hours)) {
                    best = s;
                }
            }
            return best;
        }

        int longestLit(int s, int light) {
            int longest = 0;
            for (int p = 0; p < pieces; p++) {
                // As long as LIGHT less 1 is not all that is left, LIGHT is there.
                longest = Math.max(longest, hoursLeft(worthTo(s, p) - (light - 1), wear[p]));
            }
            return longest;
        }

        int duskHours(int s, int p, int q) {
            if (!hasPiece(p) || !hasPiece(q)) {
                return 0;
            }
            return Math.min(hoursLeft(worthTo(s, p) / 2, wear[p]), hoursLeft(worthTo(s, q) / 2, wear[q]));
        }

        int duskiestCouple(int s) {
            int best = NONE;
            int longest = NONE;
            for (int p = 0; p < pieces; p++) {
                for (int q = p + 1; q < pieces; q++) {
                    int hours = duskHours(s, p, q);
                    if (hours > longest) {
                        longest = hours;
                        best = 10 * p + q;
                    }
                }
            }
            return best;
        }

        /** WORTHS of all SECRETS to all PIECES, if one PIECE had another TASTE. */
        int worthOfAll(int piece, int itsTaste) {
            int sum = 0;
            for (int p = 0; p < pieces; p++) {
                for (int s = 0; s < secrets; s++) {
                    sum += worthIfTaste(s, p, p == piece ? itsTaste : taste[p]);
                }
            }
            return sum;
        }

        int fittestTaste() {
            int best = 0;
            int most = NONE;
            for (int p = 0; p < pieces; p++) {
                for (int itsTaste = 0; itsTaste < KINDS; itsTaste++) {
                    int sum = worthOfAll(p, itsTaste);
                    if (sum > most) {
                        most = sum;
                        best = 10 * p + itsTaste;
                    }
                }
            }
            return best;
        }

        /** SECRETS that just so many PIECES KNOW. */
        int knownBy(int many) {
            int bits = 0;
            for (int s = 0; s < secrets; s++) {
                int sum = 0;
                for (int p = 0; p < pieces; p++) {
                    sum += hasBit(knows[p], s) ? 1 : 0;
                }
                bits |= sum == many ? 1 << s : 0;
            }
            return bits;
        }

        /** How long a PIECE shines by a KIND and WEIGHT told anew. */
        int hoursTold(int code, int p) {
            if (!hasPiece(p)) {
                return 0;
            }
            return hoursLeft(worthOf(weightOfCode(code), kindOfCode(code) == taste[p], false), wear[p]);
        }
    }

    /** Reads a tape into lines, and finds its FAULT. */
    private static final class Reader {
        /** No line is shorter than 'hour;'. */
        static final int LINES = TAPE_BYTES / 5;

        static final int END = 0;
        static final int WORD = 1;
        static final int NUMBER = 2;
        static final int STOP = 3;
        static final int BAD = 4;

        final byte[] tape = new byte[TAPE_BYTES];
        int length = 0;
        int token = END;
        int start = 0;
        int behind = 0;

        int lines = 0;
        final int[] verbs = new int[LINES];
        final int[] kinds = new int[LINES];
        final int[] starts = new int[LINES];
        final int[] numbers = new int[LINES * 3];
        final int[] places = new int[LINES * 3];
        final int[] tally = new int[LINK + 1];

        int fault = 0;
        int place = NONE;

        void read(byte[] bytes, int size, int sort) {
            length = Math.max(0, Math.min(size, Math.min(bytes.length, TAPE_BYTES)));
            System.arraycopy(bytes, 0, tape, 0, length);
            fault = 0;
            place = NONE;
            readLines(sort);
            if (fault == 0) {
                checkLines();
            }
            if (fault == 0 && sort == HOUSE_SORT) {
                checkAllThere();
            }
        }

        private void blame(int itsFault, int itsPlace) {
            fault = itsFault;
            place = itsPlace;
        }

        private static boolean isBlank(int b) {
            return b == 10 || b == 32;
        }

        private static boolean isLetter(int b) {
            return b >= 'a' && b <= 'z';
        }

        private static boolean isDigit(int b) {
            return b >= '0' && b <= '9';
        }

        private void nextToken() {
            int at = behind;
            while (at < length && isBlank(tape[at])) {
                at++;
            }
            start = at;
            if (at >= length) {
                token = END;
            } else if (isLetter(tape[at])) {
                while (at < length && isLetter(tape[at])) {
                    at++;
                }
                token = WORD;
            } else if (isDigit(tape[at])) {
                while (at < length && isDigit(tape[at])) {
                    at++;
                }
                token = at - start <= 2 ? NUMBER : BAD;
            } else {
                token = tape[at] == ';' ? STOP : BAD;
                at++;
            }
            behind = at;
        }

        private int tokenNumber() {
            int value = 0;
            for (int at = start; at < behind && at < length; at++) {
                value = value * 10 + (tape[at] - '0');
            }
            return value;
        }

        private boolean spells(String word) {
            if (token != WORD || behind - start != word.length() || behind > length) {
                return false;
            }
            for (int i = 0; i < word.length(); i++) {
                if (tape[start + i] != word.charAt(i)) {
                    return false;
                }
            }
            return true;
        }

        private static String wordOf(int verb) {
            switch (verb) {
                case PIECE:
                    return "piece";
                case SECRET:
                    return "secret";
                case KNOWS:
                    return "knows";
                case LINK:
                    return "link";
                case TELL:
                    return "tell";
                case BOTH:
                    return "both";
                case POLISH:
                    return "polish";
                case STEAL:
                    return "steal";
                case BACK:
                    return "back";
                case HOUR:
                    return "hour";
                case DINNER:
                    return "dinner";
                case SHONE:
                    return "shone";
                default:
                    return "";
            }
        }

        private int verbOf(int sort) {
            if (sort < 0 || sort >= SORTS) {
                return NONE;
            }
            for (int verb = VERBS_FROM[sort]; verb < VERBS_FROM[sort + 1]; verb++) {
                if (spells(wordOf(verb))) {
                    return verb;
                }
            }
            return NONE;
        }

        private int kindOf() {
            if (spells("love")) {
                return 0;
            }
            if (spells("debt")) {
                return 1;
            }
            if (spells("death")) {
                return 2;
            }
            return spells("will") ? 3 : NONE;
        }

        private void readLines(int sort) {
            lines = 0;
            behind = 0;
            nextToken();
            for (int line = 0; line <= LINES && token != END; line++) {
                if (!readLine(sort)) {
                    blame(1, start);
                    return;
                }
            }
        }

        /** Leaves the token behind the line, or the one with which no text goes on. */
        private boolean readLine(int sort) {
            int verb = verbOf(sort);
            if (verb == NONE || lines >= LINES) {
                return false;
            }
            verbs[lines] = verb;
            kinds[lines] = NONE;
            starts[lines] = start;
            nextToken();
            if (verb == PIECE || verb == SECRET) {
                kinds[lines] = kindOf();
                if (kinds[lines] == NONE) {
                    return false;
                }
                nextToken();
            }
            if (!readNumbers(verb) || token != STOP) {
                return false;
            }
            nextToken();
            lines++;
            return true;
        }

        private boolean readNumbers(int verb) {
            for (int i = 0; i < 3; i++) {
                int at = lines * 3 + i;
                numbers[at] = NONE;
                places[at] = NONE;
                if (i >= NUMBERS[verb]) {
                    continue;
                }
                if (token != NUMBER) {
                    return false;
                }
                numbers[at] = tokenNumber();
                places[at] = start;
                nextToken();
            }
            return true;
        }

        private void checkLines() {
            Arrays.fill(tally, 0);
            for (int line = 0; line < lines; line++) {
                if (isTooMany(line)) {
                    blame(3, starts[line]);
                    return;
                }
                for (int i = 0; i < NUMBERS[verbs[line]]; i++) {
                    if (!mayBe(line, i)) {
                        blame(2, places[line * 3 + i]);
                        return;
                    }
                }
            }
        }

        private boolean isTooMany(int line) {
            int verb = verbs[line];
            if (verb > LINK) {
                return line >= LIMITS[verb];
            }
            tally[verb]++;
            return tally[verb] > LIMITS[verb];
        }

        private boolean mayBe(int line, int i) {
            int verb = verbs[line];
            int at = line * 3;
            int value = numbers[at + i];
            if (value < LEAST[verb * 3 + i] || value > MOST[verb * 3 + i]) {
                return false;
            }
            if (verb == LINK && i > 0) {
                return value != numbers[at] && (i == 1 || value != numbers[at + 1]);
            }
            if (verb == BOTH && i == 2) {
                return value != numbers[at + 1];
            }
            return verb != DINNER || i > 0 || line == 0 || value >= numbers[at - 3];
        }

        private void checkAllThere() {
            for (int line = 0; line < lines; line++) {
                int at = line * 3;
                boolean there = true;
                if (verbs[line] == KNOWS) {
                    there = numbers[at] < tally[PIECE] && numbers[at + 1] < tally[SECRET];
                } else if (verbs[line] == LINK) {
                    there = Math.max(numbers[at], Math.max(numbers[at + 1], numbers[at + 2])) < tally[SECRET];
                }
                if (!there) {
                    blame(4, length);
                    return;
                }
            }
        }

        void fillHouse(House house) {
            if (house == null) {
                return;
            }
            house.empty();
            for (int line = 0; line < lines; line++) {
                int at = line * 3;
                switch (verbs[line]) {
                    case PIECE:
                        house.addPiece(kinds[line], numbers[at]);
                        break;
                    case SECRET:
                        house.addSecret(kinds[line], numbers[at]);
                        break;
                    case KNOWS:
                        house.addKnown(numbers[at], numbers[at + 1]);
                        break;
                    default:
                        house.addLink(numbers[at], numbers[at + 1], numbers[at + 2]);
                        break;
                }
            }
        }

        void fillRows(Rows rows) {
            if (rows == null) {
                return;
            }
            rows.size = 0;
            for (int line = 0; line < lines; line++) {
                int at = line * 3;
                rows.add(verbs[line], numbers[at], numbers[at + 1], numbers[at + 2]);
            }
        }
    }

    /** A MONTH as it goes on in a HOUSE, deed by deed. */
    private static final class Course {
        private House home = new House();
        private final int[] shine = new int[PIECES];
        private final int[] gloss = new int[PIECES];
        private final int[] knows = new int[PIECES];
        private final int[] brightStates = new int[PIECES];
        private int stolen = 0;
        private int hour = 0;
        private int given = 0;
        private int draws = 0;
        int dark = 0;
        int dusked = NONE;
        int greatest = 0;

        private void begin(House house) {
            home = house;
            Arrays.fill(shine, 0);
            Arrays.fill(gloss, 0);
            System.arraycopy(house.knows, 0, knows, 0, PIECES);
            Arrays.fill(brightStates, 0);
            stolen = 0;
            hour = 0;
            given = 0;
            dark = 0;
            dusked = NONE;
            greatest = 0;
        }

        /** Goes through the first n DEEDS as far as they can be: how many that are. */
        int follow(House house, Rows month, int n) {
            begin(house);
            remember(0);
            for (int k = 0; k < n && k < month.size; k++) {
                if (!perform(month.cell(k, 0), month.cell(k, 1), month.cell(k, 2), month.cell(k, 3))) {
                    return k;
                }
                remember(k + 1);
            }
            return Math.min(n, month.size);
        }

        /** Adds the STATE behind n DEEDS to what is said of all STATES. */
        private void remember(int n) {
            int bright = brightest();
            if (bright == NONE) {
                dark++;
            } else {
                brightStates[bright]++;
            }
            if (dusked == NONE && isDusk()) {
                dusked = n;
            }
            for (int p = 0; p < home.pieces; p++) {
                greatest = Math.max(greatest, shine[p]);
            }
        }

        int star() {
            int best = NONE;
            int most = 0;
            for (int p = 0; p < home.pieces; p++) {
                if (brightStates[p] > most) {
                    most = brightStates[p];
                    best = p;
                }
            }
            return best;
        }

        private boolean perform(int verb, int one, int two, int three) {
            switch (verb) {
                case TELL:
                    return tellOne(one, two);
                case BOTH:
                    return tellTwo(one, two, three);
                case POLISH:
                    return polishOne(one);
                case STEAL:
                    return stealOne(one);
                case BACK:
                    return bringBack(one);
                case HOUR:
                    return passHour();
                default:
                    return false;
            }
        }

        private boolean isThere(int p) {
            return home.hasPiece(p) && !hasBit(stolen, p);
        }

        private int worthNow(int s, int p) {
            return worthOf(home.weight[s], home.kind[s] == home.taste[p], hasBit(knows[p], s));
        }

        private void give(int s, int p, int itsShine) {
            shine[p] = itsShine;
            given += itsShine;
            knows[p] |= 1 << s;
        }

        private boolean tellOne(int s, int p) {
            if (!home.hasSecret(s) || !isThere(p)) {
                return false;
            }
            Arrays.fill(shine, 0);
            give(s, p, worthNow(s, p));
            return true;
        }

        private boolean tellTwo(int s, int p, int q) {
            if (!home.hasSecret(s) || !isThere(p) || !isThere(q) || p == q) {
                return false;
            }
            Arrays.fill(shine, 0);
            give(s, p, worthNow(s, p) / 2);
            give(s, q, worthNow(s, q) / 2);
            return true;
        }

        private boolean polishOne(int p) {
            if (!isThere(p)) {
                return false;
            }
            Arrays.fill(gloss, 0);
            gloss[p] = GLOSS;
            return true;
        }

        private boolean stealOne(int p) {
            if (!isThere(p)) {
                return false;
            }
            stolen |= 1 << p;
            shine[p] = 0;
            gloss[p] = 0;
            return true;
        }

        private boolean bringBack(int p) {
            if (!home.hasPiece(p) || !hasBit(stolen, p)) {
                return false;
            }
            stolen &= ~(1 << p);
            return true;
        }

        private boolean passHour() {
            if (hour >= LATEST_HOUR) {
                return false;
            }
            for (int p = 0; p < home.pieces; p++) {
                shine[p] = Math.max(0, shine[p] - home.wear[p]);
            }
            Arrays.fill(gloss, 0);
            hour++;
            return true;
        }

        private int brightest() {
            int best = NONE;
            int most = 0;
            for (int p = 0; p < home.pieces; p++) {
                if (shine[p] + gloss[p] > most) {
                    most = shine[p] + gloss[p];
                    best = p;
                }
            }
            return best;
        }

        private boolean isDusk() {
            int sum = 0;
            for (int p = 0; p < home.pieces; p++) {
                sum += shine[p] + gloss[p] > 0 ? 1 : 0;
            }
            return sum > 1;
        }

        int look(int what) {
            switch (what) {
                case 0:
                    return hour;
                case 1:
                    return brightest();
                case 2:
                    return isDusk() ? 1 : 0;
                case 3:
                    return stolen;
                case 4:
                    return given;
                default:
                    return what >= 10 && home.hasPiece(what % 10) ? lookAt(what / 10, what % 10) : NO_SUCH;
            }
        }

        private int lookAt(int row, int p) {
            switch (row) {
                case 1:
                    return shine[p];
                case 2:
                    return gloss[p];
                case 3:
                    return knows[p];
                default:
                    return NO_SUCH;
            }
        }

        void draw(House house, int seed, int n) {
            begin(house);
            draws = seed;
            for (int k = 0; k < n; k++) {
                drawDeed();
            }
        }

        private int drawBelow(int bound) {
            draws = draws * 1103515245 + 12345;
            return bound <= 0 ? 0 : (draws >>> 16) % bound;
        }

        private void drawDeed() {
            int lot = drawBelow(8);
            if (lot >= 4 && lot <= 6) {
                passHour();
            } else if (home.secrets > 0 && home.pieces > 0) {
                drawTelling(lot);
            }
        }

        /** What may not be is left undone: the deeds test it themselves. */
        private void drawTelling(int lot) {
            int s = lot <= 2 ? drawBelow(home.secrets) : NONE;
            int p = drawBelow(home.pieces);
            if (lot <= 1) {
                tellOne(s, p);
            } else if (lot == 2) {
                tellTwo(s, p, p + 1 < home.pieces ? p + 1 : 0);
            } else if (lot == 3) {
                polishOne(p);
            } else if (isThere(p)) {
                stealOne(p);
            } else {
                bringBack(p);
            }
        }
    }

    /**
     * DINNERS in a HOUSE. Who is told takes all others' SHINE, so a SECRET serves a stretch of DINNERS of one
     * PIECE; and one that is told later shines longer, so a stretch may always be shortened in front.
     */
    private static final class Table {
        /** Behind which DINNER a SECRET's stretch ends, if it is told ahead of a DINNER (that one, if it serves none). */
        private final int[] reach = new int[SECRETS * DINNERS];

        /** By sets of SECRETS: the DINNER from which, or up to which, they serve. */
        private final int[] spans = new int[SECRET_SETS];

        private void measure(House house, Rows dinners) {
            for (int s = 0; s < house.secrets; s++) {
                for (int k = 0; k < dinners.size && k < DINNERS; k++) {
                    reach[s * DINNERS + k] = stretch(house, dinners, s, k);
                }
            }
        }

        private static int stretch(House house, Rows dinners, int s, int k) {
            int p = dinners.cell(k, 2);
            if (!house.hasPiece(p)) {
                return k;
            }
            int worth = house.worthTo(s, p);
            for (int i = k; i < dinners.size; i++) {
                int hours = dinners.cell(i, 1) - dinners.cell(k, 1);
                if (dinners.cell(i, 2) != p || worth - hours * house.wear[p] < dinners.cell(i, 3)) {
                    return i;
                }
            }
            return dinners.size;
        }

        int longestServed(House house, Rows dinners) {
            measure(house, dinners);
            spans[0] = 0;
            for (int bits = 1; bits < house.secretSets(); bits++) {
                int longest = 0;
                for (int s = 0; s < house.secrets; s++) {
                    if (hasBit(bits, s)) {
                        int from = spans[bits & ~(1 << s)];
                        longest = Math.max(longest, from < dinners.size ? reach[s * DINNERS + from] : from);
                    }
                }
                spans[bits] = longest;
            }
            return spans[house.allSecrets()];
        }

        /** The fewest SECRETS, NONE if all are not enough; toldAhead() goes by what this leaves. */
        int fewestServing(House house, Rows dinners) {
            measure(house, dinners);
            int fewest = dinners.size == 0 ? 0 : NONE;
            spans[0] = dinners.size;
            for (int bits = 1; bits < house.secretSets(); bits++) {
                int earliest = dinners.size;
                for (int s = 0; s < house.secrets; s++) {
                    if (hasBit(bits, s)) {
                        earliest = Math.min(earliest, startServing(s, spans[bits & ~(1 << s)]));
                    }
                }
                spans[bits] = earliest;
                int size = Integer.bitCount(bits);
                if (earliest == 0 && (fewest == NONE || size < fewest)) {
                    fewest = size;
                }
            }
            return fewest;
        }

        /** The first DINNER from which a SECRET serves all up to the one at the end, without that. */
        private int startServing(int s, int end) {
            int k = end;
            while (k > 0 && reach[s * DINNERS + k - 1] >= end) {
                k--;
            }
            return k;
        }

        /** The first DINNER from which so many of the SECRETS that are left serve to the end. */
        private int startOfRest(int left, int many, int sets) {
            int earliest = spans[0];
            for (int bits = 1; bits < sets; bits++) {
                if ((bits & ~left) == 0 && spans[bits] < earliest && Integer.bitCount(bits) <= many) {
                    earliest = spans[bits];
                }
            }
            return earliest;
        }

        int toldAhead(House house, Rows dinners, int fewest, int asked) {
            int left = house.allSecrets();
            int k = 0;
            for (int many = fewest - 1; many >= 0 && k <= asked; many--) {
                for (int s = 0; s < house.secrets && k < dinners.size; s++) {
                    if (!hasBit(left, s) || reach[s * DINNERS + k] == k) {
                        continue;
                    }
                    int rest = startOfRest(left & ~(1 << s), many, house.secretSets());
                    if (reach[s * DINNERS + k] >= rest) {
                        if (k == asked) {
                            return s;
                        }
                        left &= ~(1 << s);
                        // A SECRET's number comes ahead of 10: the next one is told as soon as it can be.
                        k = Math.max(k + 1, rest);
                        break;
                    }
                }
            }
            return SECRETS;
        }
    }

    /** EVENINGS in which all SECRETS of a HOUSE are told. */
    private static final class Nights {
        /** One more than any evening's WEIGHT: evenings and the last one's WEIGHT are held in one number. */
        private static final int STEP = 128;

        private final int[] packed = new int[SECRET_SETS];
        private final int[] loads = new int[SECRETS];
        private final int[] row = new int[SECRETS];

        int fewest(House house, int most) {
            packed[0] = most;
            for (int bits = 1; bits < house.secretSets(); bits++) {
                int best = (SECRETS + 1) * STEP;
                for (int s = 0; s < house.secrets; s++) {
                    if (hasBit(bits, s)) {
                        best = Math.min(best, addTo(packed[bits & ~(1 << s)], house.weight[s], most));
                    }
                }
                packed[bits] = best;
            }
            return packed[house.allSecrets()] / STEP;
        }

        private static int addTo(int pack, int weight, int most) {
            if (pack % STEP + weight <= most) {
                return pack + weight;
            }
            return (pack / STEP + 1) * STEP + weight;
        }

        int whenTold(House house, int most, int secret) {
            int evenings = fewest(house, most);
            Arrays.fill(loads, 0);
            return place(house, most, evenings, 0, loads, row) ? row[secret] : NONE;
        }

        /** Puts SECRETS from s on into evenings, each as early as all behind it allow. */
        private static boolean place(House house, int most, int evenings, int s, int[] loads, int[] row) {
            if (s >= house.secrets || s >= row.length) {
                return true;
            }
            for (int e = 0; e < evenings && e < loads.length; e++) {
                boolean fresh = loads[e] == 0;
                if (loads[e] + house.weight[s] <= most) {
                    row[s] = e;
                    loads[e] += house.weight[s];
                    if (place(house, most, evenings, s + 1, loads, row)) {
                        return true;
                    }
                    loads[e] -= house.weight[s];
                }
                if (fresh) {
                    // All evenings without any SECRET are alike.
                    return false;
                }
            }
            return false;
        }
    }

    /** KINDS and WEIGHTS that FIT a LOG. */
    private static final class Guess {
        static final int CODES = KINDS * WEIGHTS;

        final int[] codes = new int[CODES];
        int size = 0;
        private final int[] tally = new int[HOURS + 1];

        void gather(House house, Rows log) {
            size = 0;
            for (int code = 0; code < CODES; code++) {
                if (isFit(house, log, code)) {
                    codes[size] = code;
                    size++;
                }
            }
        }

        private static boolean isFit(House house, Rows log, int code) {
            for (int k = 0; k < log.size; k++) {
                if (house.hoursTold(code, log.cell(k, 1)) != log.cell(k, 2)) {
                    return false;
                }
            }
            return true;
        }

        boolean hasFit(int k) {
            return k >= 0 && k < size;
        }

        int sureKind() {
            for (int k = 1; k < size; k++) {
                if (kindOfCode(codes[k]) != kindOfCode(codes[0])) {
                    return NONE;
                }
            }
            return size == 0 ? NONE : kindOfCode(codes[0]);
        }

        int sureWeight() {
            for (int k = 1; k < size; k++) {
                if (weightOfCode(codes[k]) != weightOfCode(codes[0])) {
                    return NONE;
                }
            }
            return size == 0 ? NONE : weightOfCode(codes[0]);
        }

        int fittingSecrets(House house) {
            int bits = 0;
            for (int s = 0; s < house.secrets; s++) {
                int code = WEIGHTS * house.kind[s] + house.weight[s] - 1;
                for (int k = 0; k < size; k++) {
                    bits |= codes[k] == code ? 1 << s : 0;
                }
            }
            return bits;
        }

        int bestAsked(House house) {
            int best = NONE;
            int least = CODES + 1;
            for (int p = 0; size > 0 && p < house.pieces; p++) {
                int most = mostAlike(house, p);
                if (most < least) {
                    least = most;
                    best = p;
                }
            }
            return best;
        }

        private int mostAlike(House house, int p) {
            Arrays.fill(tally, 0);
            int most = 0;
            for (int k = 0; k < size; k++) {
                int hours = house.hoursTold(codes[k], p);
                if (hours >= 0 && hours <= HOURS) {
                    tally[hours]++;
                    most = Math.max(most, tally[hours]);
                }
            }
            return most;
        }
    }

    /** What is got by each set of PIECES of a HOUSE. */
    private static final class Thieves {
        private final int[] spoils = new int[PIECE_SETS];

        void spoil(House house) {
            for (int bits = 0; bits <= house.allPieces(); bits++) {
                int known = 0;
                for (int p = 0; p < house.pieces; p++) {
                    known |= hasBit(bits, p) ? house.knows[p] : 0;
                }
                spoils[bits] = house.weightOf(house.closure(known, NONE));
            }
        }

        int got(int bits) {
            return bits >= 0 && bits < PIECE_SETS ? spoils[bits] : 0;
        }

        /** The PIECES, n of the open ones at most, by which most is got. */
        int bestPieces(int open, int n) {
            int best = 0;
            int bits = 0;
            for (int step = 1; step < PIECE_SETS && bits != open; step++) {
                // The next greater number whose bits are all open.
                bits = bits - open & open;
                int size = Integer.bitCount(bits);
                if (size > n) {
                    continue;
                }
                if (got(bits) > got(best) || got(bits) == got(best) && size < Integer.bitCount(best)) {
                    best = bits;
                }
            }
            return best;
        }

        /** The PIECES, g at most, without which n others get least. */
        int bestGuards(int all, int g, int n) {
            int best = 0;
            int least = got(bestPieces(all, n));
            for (int guards = 1; guards <= all; guards++) {
                int size = Integer.bitCount(guards);
                if (size > g) {
                    continue;
                }
                int most = got(bestPieces(all & ~guards, n));
                if (most < least || most == least && size < Integer.bitCount(best)) {
                    least = most;
                    best = guards;
                }
            }
            return best;
        }
    }
}
