import java.util.Arrays;

/** Whoever names it must feed it: a path in the mountains, beasts, and people who feed what they called. */
public final class WhoeverNamesIt {

    private static final int PLACES = 16;
    private static final int PEOPLE = 5;
    private static final int BEASTS = 9;
    private static final int SORTS = 8;
    private static final int FIGURES = 10;
    private static final int TONGUES = 4;
    private static final int SHELVES = 8;

    private static final int MOST_MEANS = 999;
    private static final int MOST_GRIEF = 99;
    private static final int MOST_HUNGER = 9;
    private static final int MOST_DAYS = 60;
    private static final int LAST_DAY = 999;
    private static final int LONGEST_ROW = 100;

    private static final int GOAT = 0;
    private static final int LAMB = 1;
    private static final int BULL = 2;
    private static final int MARE = 3;
    private static final int DOG = 4;
    private static final int WOLF = 5;
    private static final int ASS = 6;
    private static final int WHELP = 7;

    private static final int SILENT = 0;
    private static final int KIND = 1;
    private static final int PROUD = 2;
    private static final int POET = 3;

    private static final int NO_SUCH = -1;
    private static final int NO_ROOM = -2;
    private static final int NOT_AS_MUST = -3;
    private static final int NONE = -4;
    private static final int NOTHING_HELD = -11;
    private static final int OTHER_KIND = -12;
    private static final int NO_PLACE = -13;
    private static final int BELOW_ZERO = -14;
    private static final int NO_FAILURE = -15;
    private static final long REFUSED_LONG = 1000000000L;

    private static final int BAD_FORM = -1000;
    private static final int BAD_STATEMENT = -2000;

    /** How a forged book writes one who answers to nobody. */
    private static final int NOBODY_TOLD = 5;

    private final Mountain now = new Mountain();
    /** Where days are tried, so that nothing tried is ever seen in what is. */
    private final Mountain mind = new Mountain();
    private final Mountain pictured = new Mountain();
    private boolean hasPicture = false;
    private final Shelf[] shelves = new Shelf[SHELVES];
    private final int[] oneHas = new int[4];
    private final int[] otherHas = new int[4];

    public WhoeverNamesIt() {
        for (int d = 0; d < SHELVES; d++) {
            shelves[d] = new Shelf();
        }
    }

    // ---- the mountain as told.

    public int mountain(int d) {
        Shelf text = shelfAt(d);
        if (text == null) {
            return NO_SUCH;
        }
        if (text.holds == Shelf.NOTHING) {
            return NOTHING_HELD;
        }
        if (!text.holdsBytes()) {
            return OTHER_KIND;
        }
        int bad = firstBadByte(text);
        if (bad != NONE) {
            return BAD_FORM - bad;
        }
        // All is tried in mind first, so that a text with a fault leaves nothing behind.
        think();
        int told = 0;
        int at = 0;
        while (at < text.size) {
            if (!doStatement(text, at)) {
                return BAD_STATEMENT - at;
            }
            told++;
            at += 2 + Math.max(0, digitsBehind(text.at(at)));
        }
        now.becomeAs(mind);
        return told;
    }

    public int beast(int b, int what) {
        if (!now.hasBeast(b) || !within(what, 0, 8)) {
            return NO_SUCH;
        }
        return now.toldOfBeast(b, what);
    }

    public int person(int p, int what) {
        if (!isPerson(p) || !within(what, 0, 6)) {
            return NO_SUCH;
        }
        return now.toldOfPerson(p, what);
    }

    public int comes(int d, int place) {
        Shelf shelf = shelfAt(d);
        if (shelf == null || !isPlace(place)) {
            return NO_SUCH;
        }
        int refusal = shelf.beastRefusal();
        return refusal != 0 ? refusal : now.addBeast(shelf.sort, shelf.figure, place);
    }

    public int stands(int b, int place) {
        return now.moveBeast(b, place);
    }

    public int walks(int p, int place) {
        return now.movePerson(p, place);
    }

    public int calls(int p, int b) {
        return now.callBeast(p, b);
    }

    public int answers(int b) {
        return now.freeBeast(b);
    }

    public int tongue(int p, int t) {
        return now.changeTongue(p, t);
    }

    public int means(int p, int v) {
        return now.changeMeans(p, v);
    }

    public int days(int n) {
        return now.goDays(n);
    }

    // ---- days on.

    public int beastThen(int b, int n, int what) {
        if (!now.hasBeast(b) || !within(n, 0, MOST_DAYS) || !within(what, 0, 2)) {
            return NO_SUCH;
        }
        think();
        mind.passDays(n);
        return mind.toldOfBeast(b, what + Mountain.TOLD_PLACE);
    }

    public int personThen(int p, int n, int what) {
        if (!isPerson(p) || !within(n, 0, MOST_DAYS) || !within(what, 0, 2)) {
            return NO_SUCH;
        }
        think();
        mind.passDays(n);
        if (what == 0) {
            return mind.purse[p];
        }
        return what == 1 ? mind.grief[p] : mind.calledBy(p);
    }

    public int named(int b, int what) {
        if (!now.hasBeast(b) || !within(what, 0, 1)) {
            return NO_SUCH;
        }
        think();
        for (int n = 0; n <= MOST_DAYS; n++) {
            if (mind.caller[b] != NONE) {
                return what == 0 ? n : mind.caller[b];
            }
            mind.passDay(0);
        }
        return NONE;
    }

    public int dies(int b) {
        if (b == -1) {
            return firstToDie();
        }
        if (!now.hasBeast(b)) {
            return NO_SUCH;
        }
        think();
        for (int n = 0; n <= MOST_DAYS; n++) {
            if (!mind.isAlive(b)) {
                return n;
            }
            mind.passDay(0);
        }
        return NONE;
    }

    public int ruined(int p) {
        if (!isPerson(p)) {
            return NO_SUCH;
        }
        think();
        for (int n = 0; n <= MOST_DAYS; n++) {
            if (mind.purse[p] < mind.needTogether(mind.calledBy(p))) {
                return n;
            }
            mind.passDay(0);
        }
        return NONE;
    }

    public int still() {
        think();
        int quiet = 0;
        for (int n = 1; n <= 60; n++) {
            mind.passDay(0);
            quiet = mind.moved == 0 ? quiet + 1 : 0;
            // Nobody went in 20 days running: the places are those of the day ahead of these.
            if (quiet == 20) {
                return n - 20;
            }
        }
        return NONE;
    }

    public int next(int what) {
        if (!within(what, 0, 2)) {
            return NO_SUCH;
        }
        think();
        mind.passDay(0);
        if (what == 0) {
            return mind.calledByAnybody() & ~now.calledByAnybody();
        }
        return what == 1 ? now.alive & ~mind.alive : mind.moved;
    }

    // ---- whom to name, whom to let go.

    public int name(int p, int n, int what) {
        if (!isPerson(p) || !within(n, 0, 30) || !within(what, 0, 1)) {
            return NO_SUCH;
        }
        think();
        int most = meansBehind(p, n);
        int best = NONE;
        int free = now.freeOnes();
        for (int b = 0; b < BEASTS; b++) {
            if (has(free, b)) {
                think();
                mind.caller[b] = p;
                int his = meansBehind(p, n);
                if (his > most) {
                    most = his;
                    best = b;
                }
            }
        }
        return best == NONE || what == 0 ? best : most;
    }

    public int cover(int p, int v) {
        if (!isPerson(p) || !within(v, 0, 99)) {
            return NO_SUCH;
        }
        int free = now.freeOnes();
        int best = NONE;
        int fewest = BEASTS + 1;
        // The sets go up, so the first of a size is the least of it.
        for (int set = 0; set <= free; set++) {
            if ((set & ~free) == 0 && Integer.bitCount(set) < fewest && covers(p, v, set)) {
                best = set;
                fewest = Integer.bitCount(set);
            }
        }
        return best;
    }

    public int letGo(int p, int n) {
        if (!isPerson(p) || !within(n, 0, 20)) {
            return NO_SUCH;
        }
        int his = now.calledBy(p);
        int best = his;
        int fewest = BEASTS + 1;
        for (int set = 0; set <= his; set++) {
            if ((set & ~his) == 0 && Integer.bitCount(set) < fewest && savesTheRest(his, set, n)) {
                best = set;
                fewest = Integer.bitCount(set);
            }
        }
        return best;
    }

    public int stand(int p, int n, int what) {
        if (!isPerson(p) || !within(n, 0, 20) || !within(what, 0, 1)) {
            return NO_SUCH;
        }
        int most = -1;
        int best = 0;
        for (int place = 0; place < PLACES; place++) {
            think();
            mind.spot[p] = place;
            int his = meansBehind(p, n);
            if (his > most) {
                most = his;
                best = place;
            }
        }
        return what == 0 ? best : most;
    }

    public int least(int p, int n) {
        if (!isPerson(p) || !within(n, 0, 20)) {
            return NO_SUCH;
        }
        int his = now.calledBy(p);
        for (int v = 0; v <= 60; v++) {
            think();
            mind.purse[p] = v;
            if (mind.keepsAlive(his, n)) {
                return v;
            }
        }
        return NONE;
    }

    public int exchange(int n) {
        if (!within(n, 0, 20)) {
            return NO_SUCH;
        }
        think();
        int most = aliveBehind(n);
        int best = NONE;
        for (int a = 0; a < PEOPLE; a++) {
            for (int b = a + 1; b < PEOPLE; b++) {
                think();
                mind.speech[a] = now.speech[b];
                mind.speech[b] = now.speech[a];
                int left = aliveBehind(n);
                if (left > most) {
                    most = left;
                    best = 10 * a + b;
                }
            }
        }
        return best;
    }

    public int teach(int p, int n, int what) {
        if (!isPerson(p) || !within(n, 0, 30) || !within(what, 0, 1)) {
            return NO_SUCH;
        }
        int most = -1;
        int best = SILENT;
        for (int t = 0; t < TONGUES; t++) {
            think();
            mind.speech[p] = t;
            int his = meansBehind(p, n);
            if (his > most) {
                most = his;
                best = t;
            }
        }
        return what == 0 ? best : most;
    }

    public int of(int what) {
        switch (what) {
            case 0: return now.richest();
            case 1: return now.loudest();
            case 2: return now.freeOnes();
            case 3: return now.pairsTogether();
            case 4: return now.hungriest();
            default: return NO_SUCH;
        }
    }

    public int nearest(int b) {
        if (!now.hasBeast(b)) {
            return NO_SUCH;
        }
        return now.isAlive(b) ? now.nearestTo(b) : NOT_AS_MUST;
    }

    // ---- what sort one is, whose.

    public int whatIs(int d, int b, int what) {
        Shelf row = shelfAt(d);
        if (row == null || !now.hasBeast(b) || !within(what, 0, 1)) {
            return NO_SUCH;
        }
        int refusal = row.rowRefusal();
        if (refusal != 0) {
            return refusal;
        }
        return what == 0 ? sortsThatFit(row, b) : figuresThatFit(row, b);
    }

    public int whereFrom(int d, int b) {
        int refusal = livingAndRowRefusal(d, b);
        Shelf row = shelfAt(d);
        if (refusal != 0 || row == null) {
            return refusal;
        }
        int fitting = 0;
        for (int place = 0; place < PLACES; place++) {
            think();
            mind.place[b] = place;
            mind.passDay(0);
            if (fits(row, b, Mountain.TOLD_PLACE)) {
                fitting |= 1 << place;
            }
        }
        return fitting;
    }

    public int whose(int d, int b) {
        int refusal = livingAndRowRefusal(d, b);
        Shelf row = shelfAt(d);
        if (refusal != 0 || row == null) {
            return refusal;
        }
        int fitting = 0;
        for (int p = 0; p <= NOBODY_TOLD; p++) {
            think();
            mind.caller[b] = p == NOBODY_TOLD ? NONE : p;
            if (fits(row, b, Mountain.TOLD_HUNGER)) {
                fitting |= 1 << p;
            }
        }
        return fitting;
    }

    public int two(int a, int b, int n) {
        if (!isPerson(a) || !isPerson(b) || a == b || !within(n, 1, 30)) {
            return NO_SUCH;
        }
        for (int pair = 0; pair < 4; pair++) {
            think();
            mind.speech[a] = pair / 2 == 1 ? now.speech[a] : SILENT;
            mind.speech[b] = pair % 2 == 1 ? now.speech[b] : SILENT;
            mind.passDays(n);
            oneHas[pair] = meansLessGrief(a);
            otherHas[pair] = meansLessGrief(b);
        }
        for (int pair = 0; pair < 4; pair++) {
            if (oneHas[pair] >= oneHas[pair ^ 2] && otherHas[pair] >= otherHas[pair ^ 1]) {
                return 10 * (pair / 2) + pair % 2;
            }
        }
        return NONE;
    }

    public long snow(int b, int n, int t, int part) {
        if (!now.hasBeast(b) || !within(n, 0, 7) || !within(t, 2, 20) || !within(part, 0, 1)) {
            return REFUSED_LONG - NO_SUCH;
        }
        long above = 0;
        for (int snowy = 0; snowy < 1 << n; snowy++) {
            if (livesThrough(b, n, snowy)) {
                above += power(t - 1, n - Integer.bitCount(snowy));
            }
        }
        return partOfFraction(above, power(t, n), part);
    }

    public long share(int p, int part) {
        if (!isPerson(p) || !within(part, 0, 1)) {
            return REFUSED_LONG - NO_SUCH;
        }
        return partOfFraction(now.purse[p], now.meansOfAll(), part);
    }

    // ---- told books, mountains by seeds.

    public int forged(int d) {
        Shelf book = shelfAt(d);
        if (book == null) {
            return NO_SUCH;
        }
        int refusal = book.rowRefusal();
        if (refusal != 0) {
            return refusal;
        }
        for (int b = 0; b < book.size; b++) {
            if (!now.hasBeast(b)) {
                return b;
            }
            int caller = now.caller[b] == NONE ? NOBODY_TOLD : now.caller[b];
            if (book.at(b) != caller) {
                return b;
            }
        }
        return NONE;
    }

    public int judge(int d) {
        Shelf row = shelfAt(d);
        if (row == null) {
            return NO_SUCH;
        }
        int refusal = row.rowRefusal();
        if (refusal != 0) {
            return refusal;
        }
        think();
        for (int n = 0; n < row.size; n++) {
            if (row.tells(n) && row.at(n) != mind.meansOfAll()) {
                return n;
            }
            mind.passDay(0);
        }
        return NONE;
    }

    public int mountains(int n, int z, int what) {
        if (!within(n, 1, 20) || !within(what, 0, 1)) {
            return NO_SUCH;
        }
        int seed = z;
        int called = 0;
        int grief = 0;
        for (int m = 0; m < n; m++) {
            think();
            for (int b = 0; b < BEASTS; b++) {
                if (now.isAlive(b)) {
                    seed = seed * 1103515245 + 12345;
                    mind.place[b] = drawn(seed, PLACES);
                }
            }
            mind.passDays(12);
            called += Integer.bitCount(mind.calledByAnybody());
            grief += mind.griefOfAll() - now.griefOfAll();
        }
        return what == 0 ? called : grief;
    }

    // ---- the image, what is told.

    public int image() {
        pictured.becomeAs(now);
        hasPicture = true;
        return now.day;
    }

    public int restore() {
        if (!hasPicture) {
            return NOT_AS_MUST;
        }
        now.becomeAs(pictured);
        return now.day;
    }

    public int count(int what) {
        switch (what) {
            case 0: return now.beasts;
            case 1: return now.day;
            case 2: return now.alive;
            case 3: return now.calledByAnybody();
            case 4: return now.meansOfAll();
            default: return NO_SUCH;
        }
    }

    // ---- shelves.

    public int keep(int d, int what, int k, int figure) {
        Shelf shelf = shelfAt(d);
        if (shelf == null || !within(what, 0, 1)) {
            return NO_SUCH;
        }
        if (what == 0) {
            shelf.becomeEmpty();
            return 0;
        }
        if (!isSort(k) || !isFigure(figure)) {
            return NO_SUCH;
        }
        shelf.holdBeast(k, figure);
        return 0;
    }

    public int row(int d, int sort, int n) {
        Shelf shelf = shelfAt(d);
        if (shelf == null || !within(sort, Shelf.OF_BYTES, Shelf.OF_INTS) || n > LONGEST_ROW) {
            return NO_SUCH;
        }
        if (n < 0) {
            return BELOW_ZERO;
        }
        shelf.holdRow(sort, n);
        return 0;
    }

    public int put(int d, int i, int v) {
        Shelf shelf = shelfAt(d);
        if (shelf == null) {
            return NO_SUCH;
        }
        int refusal = shelf.rowRefusal();
        if (refusal != 0) {
            return refusal;
        }
        if (!within(i, 0, shelf.size - 1)) {
            return NO_PLACE;
        }
        shelf.set(i, v);
        return 0;
    }

    public long element(int d, int i) throws IllegalArgumentException, IllegalStateException {
        Shelf shelf = shelfAt(d);
        if (shelf == null) {
            throw new IllegalArgumentException("no such shelf");
        }
        if (shelf.rowRefusal() != 0) {
            throw new IllegalStateException("no row");
        }
        if (!within(i, 0, shelf.size - 1)) {
            throw new IllegalStateException("no such place");
        }
        return shelf.at(i);
    }

    public int copy(int d, int i, int e, int j, int n) {
        Shelf from = shelfAt(d);
        Shelf to = shelfAt(e);
        if (from == null || to == null) {
            return NO_SUCH;
        }
        if (from.holds == Shelf.NOTHING || to.holds == Shelf.NOTHING) {
            return NOTHING_HELD;
        }
        if (from.holds != Shelf.ROW || to.holds != Shelf.ROW || from.kind != to.kind) {
            return OTHER_KIND;
        }
        if (!from.hasStretch(i, n) || !to.hasStretch(j, n)) {
            return NO_PLACE;
        }
        System.arraycopy(from.elements, i, to.elements, j, n);
        return n;
    }

    public int cost(int d) {
        Shelf shelf = shelfAt(d);
        if (shelf == null) {
            return NO_SUCH;
        }
        int refusal = shelf.beastRefusal();
        return refusal != 0 ? refusal : Sorts.costOf(shelf.sort, shelf.figure);
    }

    public int toss(int d) {
        Shelf shelf = shelfAt(d);
        if (shelf == null) {
            return NO_SUCH;
        }
        int refusal = shelf.beastRefusal();
        if (refusal != 0) {
            return refusal;
        }
        try {
            Sorts.fail(shelf.sort, shelf.figure);
        } catch (IllegalArgumentException goat) {
            return shelf.figure;
        } catch (IllegalStateException bull) {
            return 100 + shelf.figure;
        } catch (UnsupportedOperationException wolf) {
            return 200 + Sorts.costOf(shelf.sort, shelf.figure);
        }
        return NO_FAILURE;
    }

    // ---- what the calls are made of.

    private static boolean within(int x, int low, int high) {
        return x >= low && x <= high;
    }

    private static boolean isPerson(int p) {
        return within(p, 0, PEOPLE - 1);
    }

    private static boolean isPlace(int place) {
        return within(place, 0, PLACES - 1);
    }

    private static boolean isSort(int sort) {
        return within(sort, 0, SORTS - 1);
    }

    private static boolean isFigure(int figure) {
        return within(figure, 0, FIGURES - 1);
    }

    private static boolean has(int bits, int i) {
        return (bits >> i & 1) == 1;
    }

    /** The shelf of a number, null if there is none. */
    private Shelf shelfAt(int d) {
        return within(d, 0, SHELVES - 1) ? shelves[d] : null;
    }

    private void think() {
        mind.becomeAs(now);
    }

    private int meansBehind(int p, int n) {
        mind.passDays(n);
        return mind.purse[p];
    }

    private int aliveBehind(int n) {
        mind.passDays(n);
        return Integer.bitCount(mind.alive);
    }

    private int meansLessGrief(int p) {
        return mind.purse[p] - 5 * (mind.grief[p] - now.grief[p]);
    }

    private int firstToDie() {
        think();
        for (int n = 0; n < MOST_DAYS; n++) {
            mind.passDay(0);
            int dead = now.alive & ~mind.alive;
            for (int b = 0; b < BEASTS; b++) {
                if (has(dead, b)) {
                    return b;
                }
            }
        }
        return NONE;
    }

    private boolean covers(int p, int v, int set) {
        int his = now.calledBy(p) | set;
        if (now.workTogether(his) < v) {
            return false;
        }
        think();
        mind.giveAll(set, p);
        return mind.keepsAlive(his, 12);
    }

    private boolean savesTheRest(int his, int set, int n) {
        think();
        mind.giveAll(set, NONE);
        return mind.keepsAlive(his & ~set, n);
    }

    private int sortsThatFit(Shelf row, int b) {
        int fitting = 0;
        for (int sort = 0; sort < SORTS; sort++) {
            think();
            mind.sort[b] = sort;
            if (fits(row, b, Mountain.TOLD_PLACE)) {
                fitting |= 1 << sort;
            }
        }
        return fitting;
    }

    private int figuresThatFit(Shelf row, int b) {
        int fitting = 0;
        for (int figure = 0; figure < FIGURES; figure++) {
            think();
            mind.figure[b] = figure;
            if (fits(row, b, Mountain.TOLD_PLACE)) {
                fitting |= 1 << figure;
            }
        }
        return fitting;
    }

    /** Whether what is in mind, from there on, goes as the row tells. */
    private boolean fits(Shelf row, int b, int what) {
        for (int i = 0; i < row.size; i++) {
            if (row.tells(i) && row.at(i) != mind.toldOfBeast(b, what)) {
                return false;
            }
            mind.passDay(0);
        }
        return true;
    }

    private int livingAndRowRefusal(int d, int b) {
        Shelf row = shelfAt(d);
        if (row == null || !now.hasBeast(b)) {
            return NO_SUCH;
        }
        return now.isAlive(b) ? row.rowRefusal() : NOT_AS_MUST;
    }

    private boolean livesThrough(int b, int n, int snowy) {
        think();
        for (int i = 0; i < n; i++) {
            mind.passDay(has(snowy, i) ? 2 : 0);
        }
        return mind.isAlive(b);
    }

    private static long power(int base, int exponent) {
        long product = 1;
        for (int i = 0; i < exponent; i++) {
            product *= base;
        }
        return product;
    }

    /** One part of a fraction in least terms; a fraction with 0 below is 0 by 1. */
    private static long partOfFraction(long above, long below, int part) {
        long divisor = commonDivisor(above, below);
        if (below == 0 || divisor == 0) {
            return part;
        }
        return (part == 0 ? above : below) / divisor;
    }

    private static long commonDivisor(long a, long b) {
        long x = a;
        long y = b;
        // Each second step halves at least: a long has done long before 200.
        for (int i = 0; i < 200 && y != 0; i++) {
            long rest = x % y;
            x = y;
            y = rest;
        }
        return x;
    }

    private static int drawn(int seed, int below) {
        return below > 0 ? (seed & 0x7fffffff) / 65536 % below : 0;
    }

    // ---- the text of a mountain.

    /** How many digits stand behind a letter; NONE if it begins no statement. */
    private static int digitsBehind(int letter) {
        switch (letter) {
            case 'b': return 4;
            case 'g': return 3;
            case 'p': return 7;
            case 'c': return 2;
            case 'u': return 1;
            case 'd': return 2;
            default: return NONE;
        }
    }

    /** The place of the first byte with which no text can go on, NONE in a text of right form. */
    private static int firstBadByte(Shelf text) {
        int at = 0;
        do {
            int digits = digitsBehind(text.at(at));
            if (digits == NONE) {
                return at;
            }
            at++;
            for (int k = 0; k < digits; k++) {
                if (!within(text.at(at), '0', '9')) {
                    return at;
                }
                at++;
            }
            if (text.at(at) != ';') {
                return at;
            }
            at++;
        } while (at < text.size);
        return NONE;
    }

    private boolean doStatement(Shelf text, int at) {
        int first = text.number(at + 1, 1);
        switch (text.at(at)) {
            case 'b': return done(mind.addBeast(first, text.number(at + 2, 1), text.number(at + 3, 2)));
            case 'g': return done(mind.moveBeast(first, text.number(at + 2, 2)));
            case 'p': return done(mind.changeTongue(first, text.number(at + 2, 1)))
                && done(mind.movePerson(first, text.number(at + 3, 2)))
                && done(mind.changeMeans(first, text.number(at + 5, 3)));
            case 'c': return done(mind.callBeast(first, text.number(at + 2, 1)));
            case 'u': return done(mind.freeBeast(first));
            case 'd': return done(mind.goDays(text.number(at + 1, 2)));
            default: return false;
        }
    }

    /** NONE is no refusal here: one called just now was called by nobody. */
    private static boolean done(int answer) {
        return answer >= 0 || answer == NONE;
    }

    /** What is told of a sort by itself. */
    private static final class Sorts {

        static int needOf(int sort, int figure) {
            int goat = 2;
            int bull = goat + figure;
            int mare = bull - 1;
            int dog = 3;
            int wolf = 2 * dog;
            switch (sort) {
                case LAMB: return 1;
                case BULL: return bull;
                case MARE: return mare;
                case DOG: return dog;
                case WOLF: return wolf;
                case ASS: return mare / 2;
                case WHELP: return wolf + 1;
                default: return goat;
            }
        }

        static int workOf(int sort, int figure) {
            int bull = 2 * figure;
            int mare = bull + 2;
            switch (sort) {
                case GOAT: return 3;
                case BULL: return bull;
                case MARE: return mare;
                case DOG: return 1;
                case ASS: return mare - 1;
                default: return 0;
            }
        }

        static int costOf(int sort, int figure) {
            int bull = figure + 3;
            int mare = 2 * bull;
            int wolf = 0;
            switch (sort) {
                case LAMB: return 1;
                case BULL: return bull;
                case MARE: return mare;
                case DOG: return 5;
                case WOLF: return wolf;
                case ASS: return mare;
                case WHELP: return wolf + 1;
                default: return figure;
            }
        }

        /** Throws the failure of a beast, each family its own; comes back if it has none. */
        static void fail(int sort, int figure) {
            if (figure == 0) {
                return;
            }
            switch (sort) {
                case GOAT: throw new IllegalArgumentException("a goat fails");
                case BULL:
                case MARE:
                case ASS: throw new IllegalStateException("a bull fails");
                case WOLF:
                case WHELP: throw new UnsupportedOperationException("a wolf fails");
                default: return;
            }
        }
    }

    /** All that there is but the shelves and the image. */
    private static final class Mountain {

        static final int TOLD_PLACE = 2;
        static final int TOLD_HUNGER = 3;

        int day = 0;
        int beasts = 0;
        /** Bits. Numbers that no beast has yet are never among them. */
        int alive = 0;
        /** Bits: who went to another place on the last day. */
        int moved = 0;
        final int[] sort = new int[BEASTS];
        final int[] figure = new int[BEASTS];
        final int[] place = new int[BEASTS];
        final int[] hunger = new int[BEASTS];
        /** By whom each is called; NONE by nobody. */
        final int[] caller = new int[BEASTS];
        final int[] purse = new int[PEOPLE];
        final int[] spot = new int[PEOPLE];
        final int[] speech = new int[PEOPLE];
        final int[] grief = new int[PEOPLE];

        Mountain() {
            for (int b = 0; b < BEASTS; b++) {
                caller[b] = NONE;
            }
            for (int p = 0; p < PEOPLE; p++) {
                purse[p] = 40;
                spot[p] = 3 * p;
            }
        }

        void becomeAs(Mountain other) {
            day = other.day;
            beasts = other.beasts;
            alive = other.alive;
            moved = other.moved;
            System.arraycopy(other.sort, 0, sort, 0, BEASTS);
            System.arraycopy(other.figure, 0, figure, 0, BEASTS);
            System.arraycopy(other.place, 0, place, 0, BEASTS);
            System.arraycopy(other.hunger, 0, hunger, 0, BEASTS);
            System.arraycopy(other.caller, 0, caller, 0, BEASTS);
            System.arraycopy(other.purse, 0, purse, 0, PEOPLE);
            System.arraycopy(other.spot, 0, spot, 0, PEOPLE);
            System.arraycopy(other.speech, 0, speech, 0, PEOPLE);
            System.arraycopy(other.grief, 0, grief, 0, PEOPLE);
        }

        boolean hasBeast(int b) {
            return within(b, 0, beasts - 1);
        }

        boolean isAlive(int b) {
            return (alive >> b & 1) == 1;
        }

        // What can be done to it: the answer or the refusal of the call that does it.

        int addBeast(int itsSort, int itsFigure, int itsPlace) {
            if (!isSort(itsSort) || !isFigure(itsFigure) || !isPlace(itsPlace)) {
                return NO_SUCH;
            }
            if (beasts >= BEASTS) {
                return NO_ROOM;
            }
            int b = beasts;
            beasts++;
            alive |= 1 << b;
            sort[b] = itsSort;
            figure[b] = itsFigure;
            place[b] = itsPlace;
            hunger[b] = 0;
            caller[b] = NONE;
            return b;
        }

        int moveBeast(int b, int to) {
            if (!hasBeast(b) || !isPlace(to)) {
                return NO_SUCH;
            }
            if (!isAlive(b)) {
                return NOT_AS_MUST;
            }
            int was = place[b];
            place[b] = to;
            return was;
        }

        int movePerson(int p, int to) {
            if (!isPerson(p) || !isPlace(to)) {
                return NO_SUCH;
            }
            int was = spot[p];
            spot[p] = to;
            return was;
        }

        int callBeast(int p, int b) {
            if (!isPerson(p) || !hasBeast(b)) {
                return NO_SUCH;
            }
            if (!isAlive(b)) {
                return NOT_AS_MUST;
            }
            int was = caller[b];
            caller[b] = p;
            return was;
        }

        int freeBeast(int b) {
            if (!hasBeast(b)) {
                return NO_SUCH;
            }
            if (caller[b] == NONE) {
                return NOT_AS_MUST;
            }
            int was = caller[b];
            caller[b] = NONE;
            return was;
        }

        int changeTongue(int p, int t) {
            if (!isPerson(p) || !within(t, 0, TONGUES - 1)) {
                return NO_SUCH;
            }
            int was = speech[p];
            speech[p] = t;
            return was;
        }

        int changeMeans(int p, int v) {
            if (!isPerson(p) || !within(v, 0, MOST_MEANS)) {
                return NO_SUCH;
            }
            int was = purse[p];
            purse[p] = v;
            return was;
        }

        int goDays(int n) {
            if (!within(n, 1, MOST_DAYS)) {
                return NO_SUCH;
            }
            if (day + n > LAST_DAY) {
                return NOT_AS_MUST;
            }
            for (int i = 0; i < n; i++) {
                passDay(0);
            }
            return Integer.bitCount(alive);
        }

        /** The caller of all of a set at once becomes p, or NONE. */
        void giveAll(int set, int p) {
            for (int b = 0; b < BEASTS; b++) {
                if (has(set, b)) {
                    caller[b] = p;
                }
            }
        }

        // A day.

        void passDays(int n) {
            for (int i = 0; i < n; i++) {
                passDay(0);
            }
        }

        void passDay(int moreNeed) {
            day++;
            moved = 0;
            for (int b = 0; b < BEASTS; b++) {
                if (isAlive(b)) {
                    goTowards(b, wantedPlace(b, day));
                }
            }
            for (int p = 0; p < PEOPLE; p++) {
                speak(p);
            }
            for (int b = 0; b < BEASTS; b++) {
                if (isAlive(b)) {
                    feed(b, moreNeed);
                }
            }
        }

        /** Days on, nobody of this set being dead. One dead stays so, thus each day may tell. */
        boolean keepsAlive(int set, int n) {
            for (int i = 0; i < n; i++) {
                passDay(0);
                if ((set & ~alive) != 0) {
                    return false;
                }
            }
            return true;
        }

        private void goTowards(int b, int goal) {
            if (goal == NONE || goal == place[b]) {
                return;
            }
            place[b] += goal > place[b] ? 1 : -1;
            moved |= 1 << b;
        }

        int wantedPlace(int b, int d) {
            if (!isAlive(b)) {
                return NONE;
            }
            int every = figure[b] + 2;
            switch (sort[b]) {
                case LAMB: return every > 0 && d % every == 0 ? spot[nearestTo(b)] : NONE;
                case BULL: return hunger[b] >= figure[b] ? spot[nearestTo(b)] : NONE;
                case MARE: return spot[richest()];
                case ASS: return hunger[b] % 2 == 0 ? spot[richest()] : NONE;
                case DOG: return isPerson(caller[b]) ? spot[caller[b]] : spot[nearestTo(b)];
                case WOLF: return awayFrom(spot[nearestTo(b)], place[b]);
                case WHELP: return isPerson(caller[b]) ? spot[caller[b]] : awayFrom(spot[nearestTo(b)], place[b]);
                default: return spot[nearestTo(b)];
            }
        }

        private static int awayFrom(int feared, int place) {
            return feared <= place ? PLACES - 1 : 0;
        }

        private void speak(int p) {
            if (speech[p] == SILENT) {
                return;
            }
            int there = freeOnesAt(spot[p]);
            switch (speech[p]) {
                case KIND: giveAll(hungryOneOf(there), p); break;
                case PROUD: giveAll(strongOneOf(there), p); break;
                case POET: giveAll(there, p); break;
                default: break;
            }
        }

        private int freeOnesAt(int where) {
            int bits = 0;
            for (int b = 0; b < BEASTS; b++) {
                if (isAlive(b) && caller[b] == NONE && place[b] == where) {
                    bits |= 1 << b;
                }
            }
            return bits;
        }

        /** The bit of the first that hungers enough to move the kind; 0 if none does. */
        private int hungryOneOf(int set) {
            for (int b = 0; b < BEASTS; b++) {
                if (has(set, b) && hunger[b] >= 5) {
                    return 1 << b;
                }
            }
            return 0;
        }

        /** The bit of the one that works most, enough to please the proud; 0 if none does. */
        private int strongOneOf(int set) {
            int most = 3;
            int best = 0;
            for (int b = 0; b < BEASTS; b++) {
                if (has(set, b) && Sorts.workOf(sort[b], figure[b]) > most) {
                    most = Sorts.workOf(sort[b], figure[b]);
                    best = 1 << b;
                }
            }
            return best;
        }

        private void feed(int b, int moreNeed) {
            int p = caller[b];
            if (!isPerson(p)) {
                hunger[b] = Math.min(MOST_HUNGER, hunger[b] + 1);
                return;
            }
            int need = Sorts.needOf(sort[b], figure[b]) + moreNeed;
            if (purse[p] >= need) {
                purse[p] = Math.min(MOST_MEANS, purse[p] - need + Sorts.workOf(sort[b], figure[b]));
                hunger[b] = 0;
            } else {
                starve(b, p);
            }
        }

        private void starve(int b, int p) {
            hunger[b] = Math.min(MOST_HUNGER, hunger[b] + 2);
            if (hunger[b] == MOST_HUNGER) {
                alive &= ~(1 << b);
                caller[b] = NONE;
                grief[p] = Math.min(MOST_GRIEF, grief[p] + 1);
            }
        }

        // What is told of it.

        int toldOfBeast(int b, int what) {
            switch (what) {
                case 0: return sort[b];
                case 1: return figure[b];
                case TOLD_PLACE: return place[b];
                case TOLD_HUNGER: return hunger[b];
                case 4: return caller[b];
                case 5: return isAlive(b) ? 1 : 0;
                case 6: return Sorts.needOf(sort[b], figure[b]);
                case 7: return Sorts.workOf(sort[b], figure[b]);
                case 8: return wantedPlace(b, day + 1);
                default: return NO_SUCH;
            }
        }

        int toldOfPerson(int p, int what) {
            switch (what) {
                case 0: return purse[p];
                case 1: return spot[p];
                case 2: return speech[p];
                case 3: return grief[p];
                case 4: return calledBy(p);
                case 5: return needTogether(calledBy(p));
                case 6: return workTogether(calledBy(p));
                default: return NO_SUCH;
            }
        }

        int calledBy(int p) {
            int bits = 0;
            for (int b = 0; b < BEASTS; b++) {
                if (caller[b] == p) {
                    bits |= 1 << b;
                }
            }
            return bits;
        }

        int calledByAnybody() {
            int bits = 0;
            for (int b = 0; b < BEASTS; b++) {
                if (caller[b] != NONE) {
                    bits |= 1 << b;
                }
            }
            return bits;
        }

        int freeOnes() {
            return alive & ~calledByAnybody();
        }

        int needTogether(int set) {
            int sum = 0;
            for (int b = 0; b < BEASTS; b++) {
                if (has(set, b)) {
                    sum += Sorts.needOf(sort[b], figure[b]);
                }
            }
            return sum;
        }

        int workTogether(int set) {
            int sum = 0;
            for (int b = 0; b < BEASTS; b++) {
                if (has(set, b)) {
                    sum += Sorts.workOf(sort[b], figure[b]);
                }
            }
            return sum;
        }

        int meansOfAll() {
            int sum = 0;
            for (int p = 0; p < PEOPLE; p++) {
                sum += purse[p];
            }
            return sum;
        }

        int griefOfAll() {
            int sum = 0;
            for (int p = 0; p < PEOPLE; p++) {
                sum += grief[p];
            }
            return sum;
        }

        int nearestTo(int b) {
            int best = 0;
            int shortest = PLACES;
            for (int p = 0; p < PEOPLE; p++) {
                int way = Math.abs(spot[p] - place[b]);
                if (way < shortest) {
                    shortest = way;
                    best = p;
                }
            }
            return best;
        }

        int richest() {
            int best = 0;
            for (int p = 1; p < PEOPLE; p++) {
                if (purse[p] > purse[best]) {
                    best = p;
                }
            }
            return best;
        }

        int loudest() {
            int best = 0;
            int most = -1;
            for (int p = 0; p < PEOPLE; p++) {
                int his = Integer.bitCount(calledBy(p));
                if (his > most) {
                    most = his;
                    best = p;
                }
            }
            return best;
        }

        int pairsTogether() {
            int pairs = 0;
            for (int a = 0; a < beasts; a++) {
                for (int b = a + 1; b < beasts; b++) {
                    if (isAlive(a) && isAlive(b) && place[a] == place[b]) {
                        pairs++;
                    }
                }
            }
            return pairs;
        }

        int hungriest() {
            int best = NONE;
            int most = -1;
            for (int b = 0; b < BEASTS; b++) {
                if (isAlive(b) && hunger[b] > most) {
                    most = hunger[b];
                    best = b;
                }
            }
            return best;
        }
    }

    /** Nothing, a sort of beast, or a row. */
    private static final class Shelf {

        static final int NOTHING = 0;
        static final int BEAST = 1;
        static final int ROW = 2;

        static final int OF_BYTES = 0;
        static final int OF_SHORTS = 1;
        static final int OF_INTS = 2;

        int holds = NOTHING;
        int sort = GOAT;
        int figure = 0;
        int kind = OF_BYTES;
        int size = 0;
        /** Made once at full length: a row anew only clears it. */
        final int[] elements = new int[LONGEST_ROW];

        void becomeEmpty() {
            holds = NOTHING;
            size = 0;
        }

        void holdBeast(int itsSort, int itsFigure) {
            holds = BEAST;
            size = 0;
            sort = itsSort;
            figure = itsFigure;
        }

        void holdRow(int itsKind, int itsSize) {
            holds = ROW;
            kind = itsKind;
            size = Math.max(0, Math.min(LONGEST_ROW, itsSize));
            Arrays.fill(elements, 0);
        }

        boolean holdsBytes() {
            return holds == ROW && kind == OF_BYTES;
        }

        int rowRefusal() {
            if (holds == NOTHING) {
                return NOTHING_HELD;
            }
            return holds == ROW ? 0 : OTHER_KIND;
        }

        int beastRefusal() {
            if (holds == NOTHING) {
                return NOTHING_HELD;
            }
            return holds == BEAST ? 0 : OTHER_KIND;
        }

        /** The element there; 0, that is no sign of any text, behind the end. */
        int at(int i) {
            return within(i, 0, size - 1) ? elements[i] : 0;
        }

        void set(int i, int v) {
            if (!within(i, 0, size - 1)) {
                return;
            }
            switch (kind) {
                case OF_BYTES: elements[i] = (byte) v; break;
                case OF_SHORTS: elements[i] = (short) v; break;
                default: elements[i] = v; break;
            }
        }

        /** The least number of the kind stands for an element that tells nothing. */
        boolean tells(int i) {
            switch (kind) {
                case OF_BYTES: return at(i) != -128;
                case OF_SHORTS: return at(i) != -32768;
                default: return at(i) != 0x80000000;
            }
        }

        boolean hasStretch(int from, int n) {
            return n >= 0 && within(from, 0, size) && n <= size - from;
        }

        /** The number that so many digits from a place on make. */
        int number(int from, int digits) {
            int value = 0;
            for (int k = 0; k < digits; k++) {
                value = value * 10 + at(from + k) - '0';
            }
            return value;
        }
    }
}
