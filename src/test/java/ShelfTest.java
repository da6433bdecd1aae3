/** Promises 38 to 47: the image, what is told, shelves. Worked out by hand. */
public final class ShelfTest {
    private static final int GOAT = 0;
    private static final int LAMB = 1;
    private static final int BULL = 2;
    private static final int MARE = 3;
    private static final int DOG = 4;
    private static final int WOLF = 5;
    private static final int ASS = 6;
    private static final int WHELP = 7;

    private static final int BYTES = 0;
    private static final int SHORTS = 1;
    private static final int INTS = 2;

    public static void main(String[] args) {
        imageOfAll();
        imagesOneBehindTheOther();
        count();
        keep();
        row();
        put();
        element();
        copy();
        copyWithin();
        copyRefused();
        cost();
        toss();
        refusalsOfBeasts();
        Due.end("ShelfTest");
    }

    private static void imageOfAll() {
        WhoeverNamesIt x = new WhoeverNamesIt();
        Due.due(39, "none yet", x.restore(), -3);
        int gone = Due.dead(x, 0, GOAT, 3);
        Due.come(x, MARE, 3, 7);
        x.calls(4, 1);
        x.means(4, 77);
        x.tongue(4, 2);
        x.walks(4, 8);
        Due.fill(x, 0, INTS, 7);
        Due.due(38, "image()", x.image(), 5);
        Due.due(38, "nothing changes", x.count(0), 2);
        x.days(3);
        Due.come(x, DOG, 1, 1);
        x.answers(1);
        x.stands(1, 0);
        x.means(4, 0);
        x.tongue(4, 0);
        x.walks(4, 0);
        Due.dead(x, 4, LAMB, 1);
        x.put(0, 0, 8);
        x.keep(1, 1, BULL, 2);
        Due.due(39, "restore()", x.restore(), 5);
        Due.due(39, "beasts", x.count(0), 2);
        Due.due(39, "day", x.count(1), 5);
        Due.due(39, "alive", x.count(2), 2);
        Due.due(39, "called", x.count(3), 2);
        Due.due(39, "place", x.beast(1, 2), 7);
        Due.due(39, "hunger", x.beast(1, 3), 0);
        Due.due(39, "caller", x.beast(1, 4), 4);
        Due.due(39, "sort", x.beast(1, 0), MARE);
        Due.due(39, "figure", x.beast(1, 1), 3);
        Due.due(39, "means", x.person(4, 0), 77);
        Due.due(39, "place of 4", x.person(4, 1), 8);
        Due.due(39, "tongue", x.person(4, 2), 2);
        Due.due(39, "grief of 4", x.person(4, 3), 0);
        Due.due(39, "grief of 0", x.person(0, 3), 1);
        Due.due(39, "dead", x.beast(gone, 5), 0);
        Due.due(39, "shelves stay", x.element(0, 0), 8);
        Due.due(39, "shelves stay, a bull", x.cost(1), 5);
        Due.due(39, "the next to come", Due.come(x, GOAT, 1, 1), 2);
    }

    private static void imagesOneBehindTheOther() {
        WhoeverNamesIt x = new WhoeverNamesIt();
        x.image();
        x.days(2);
        Due.due(39, "day 0", x.restore(), 0);
        x.days(3);
        Due.due(39, "the image is still there", x.restore(), 0);
        x.days(4);
        Due.due(38, "day 4", x.image(), 4);
        x.days(1);
        Due.due(39, "the later image", x.restore(), 4);
        x.means(1, 9);
        Due.due(39, "what is done behind does not come into it", x.restore(), 4);
        Due.due(39, "means", x.person(1, 0), 40);
        Due.tell(x, "d05;");
        x.personThen(0, 60, 0);
        Due.due(39, "nor does what is in mind", x.restore(), 4);
        Due.due(39, "day", x.count(1), 4);
    }

    private static void count() {
        WhoeverNamesIt x = new WhoeverNamesIt();
        Due.dead(x, 2, GOAT, 2);
        Due.come(x, GOAT, 1, 1);
        Due.come(x, GOAT, 1, 1);
        x.calls(3, 2);
        x.means(3, 999);
        Due.due(40, "beasts", x.count(0), 3);
        Due.due(40, "day", x.count(1), 5);
        Due.due(40, "alive", x.count(2), 6);
        Due.due(40, "called", x.count(3), 4);
        Due.due(40, "means", x.count(4), 1159);
        Due.due(40, "count(5)", x.count(5), -1);
        Due.due(40, "count(-1)", x.count(-1), -1);
    }

    private static void keep() {
        WhoeverNamesIt x = new WhoeverNamesIt();
        Due.due(41, "a goat", x.keep(0, 1, GOAT, 0), 0);
        Due.due(41, "a whelp", x.keep(7, 1, WHELP, 9), 0);
        Due.due(41, "the goat", x.cost(0), 0);
        Due.due(41, "the whelp", x.cost(7), 1);
        Due.due(41, "d -1", x.keep(-1, 1, GOAT, 0), -1);
        Due.due(41, "d 8", x.keep(8, 1, GOAT, 0), -1);
        Due.due(41, "d 8, nothing", x.keep(8, 0, GOAT, 0), -1);
        Due.due(41, "what -1", x.keep(0, -1, GOAT, 0), -1);
        Due.due(41, "what 2", x.keep(0, 2, GOAT, 0), -1);
        Due.due(41, "sort -1", x.keep(0, 1, -1, 0), -1);
        Due.due(41, "sort 8", x.keep(0, 1, 8, 0), -1);
        Due.due(41, "figure -1", x.keep(0, 1, GOAT, -1), -1);
        Due.due(41, "figure 10", x.keep(0, 1, GOAT, 10), -1);
        Due.due(41, "nothing changed", x.cost(0), 0);
        Due.due(41, "nothing, the others do not matter", x.keep(7, 0, -9, 99), 0);
        Due.due(41, "nothing there", x.cost(7), -11);
        x.row(1, BYTES, 4);
        Due.due(41, "a bull in place of a row", x.keep(1, 1, BULL, 1), 0);
        Due.due(41, "no row now", x.put(1, 0, 1), -12);
        x.row(1, BYTES, 4);
        Due.due(41, "nothing in place of a row", x.keep(1, 0, 0, 0), 0);
        Due.due(41, "nothing now", x.put(1, 0, 1), -11);
    }

    private static void row() {
        WhoeverNamesIt x = new WhoeverNamesIt();
        Due.due(42, "100 ints", x.row(0, INTS, 100), 0);
        Due.due(42, "the last", x.element(0, 99), 0);
        Due.due(42, "no more", Due.thrown(x, 0, 100), 2);
        x.put(0, 1, 5);
        Due.due(42, "anew", x.row(0, INTS, 2), 0);
        Due.due(42, "0 at first", x.element(0, 1), 0);
        Due.due(42, "2 elements", x.put(0, 2, 1), -13);
        Due.due(42, "none at all", x.row(0, BYTES, 0), 0);
        Due.due(42, "no element", x.put(0, 0, 1), -13);
        Due.due(42, "a row it is", x.cost(0), -12);
        Due.due(42, "d -1", x.row(-1, 0, 1), -1);
        Due.due(42, "d 8", x.row(8, 0, 1), -1);
        Due.due(42, "kind -1", x.row(0, -1, 1), -1);
        Due.due(42, "kind 3", x.row(0, 3, 1), -1);
        Due.due(42, "n 101", x.row(0, 0, 101), -1);
        Due.due(42, "n -1", x.row(0, 0, -1), -14);
        Due.due(42, "n of the least", x.row(0, 0, Integer.MIN_VALUE), -14);
        Due.due(42, "d 8 and n -1", x.row(8, 0, -1), -1);
        Due.due(42, "kind 3 and n -1", x.row(0, 3, -1), -1);
        x.keep(1, 1, GOAT, 3);
        Due.due(42, "refused: the goat stays", x.row(1, 0, -1), -14);
        Due.due(42, "the goat", x.cost(1), 3);
        Due.due(42, "a row in place of the goat", x.row(1, SHORTS, 1), 0);
        Due.due(42, "no goat now", x.cost(1), -12);
    }

    private static long kept(int kind, int v) {
        WhoeverNamesIt x = new WhoeverNamesIt();
        Due.fill(x, 3, kind, 1, v, 1);
        return x.element(3, 1);
    }

    private static void put() {
        Due.due(43, "127 a byte", kept(BYTES, 127), 127);
        Due.due(43, "128 a byte", kept(BYTES, 128), -128);
        Due.due(43, "-128 a byte", kept(BYTES, -128), -128);
        Due.due(43, "-129 a byte", kept(BYTES, -129), 127);
        Due.due(43, "256 a byte", kept(BYTES, 256), 0);
        Due.due(43, "32767 a short", kept(SHORTS, 32767), 32767);
        Due.due(43, "32768 a short", kept(SHORTS, 32768), -32768);
        Due.due(43, "-32769 a short", kept(SHORTS, -32769), 32767);
        Due.due(43, "65537 a short", kept(SHORTS, 65537), 1);
        Due.due(43, "the greatest int", kept(INTS, Integer.MAX_VALUE), Integer.MAX_VALUE);
        Due.due(43, "the least int", kept(INTS, Integer.MIN_VALUE), Integer.MIN_VALUE);
        WhoeverNamesIt x = new WhoeverNamesIt();
        x.row(2, BYTES, 3);
        Due.due(43, "put", x.put(2, 2, 9), 0);
        Due.due(43, "i -1", x.put(2, -1, 9), -13);
        Due.due(43, "i 3", x.put(2, 3, 9), -13);
        Due.due(43, "i of the greatest", x.put(2, Integer.MAX_VALUE, 9), -13);
        Due.due(43, "the others stay", x.element(2, 1), 0);
        Due.due(43, "d -1", x.put(-1, 0, 0), -1);
        Due.due(43, "d 8", x.put(8, 0, 0), -1);
        Due.due(43, "nothing", x.put(0, 0, 0), -11);
        x.keep(0, 1, GOAT, 1);
        Due.due(43, "a goat", x.put(0, 0, 0), -12);
        Due.due(43, "a goat, no such place", x.put(0, -1, 0), -12);
    }

    private static void element() {
        WhoeverNamesIt x = new WhoeverNamesIt();
        Due.fill(x, 7, INTS, 3, -4);
        Due.due(44, "the first", x.element(7, 0), 3);
        Due.due(44, "the last", x.element(7, 1), -4);
        Due.due(44, "d -1", Due.thrown(x, -1, 0), 1);
        Due.due(44, "d 8", Due.thrown(x, 8, 0), 1);
        Due.due(44, "d 8, i -1", Due.thrown(x, 8, -1), 1);
        Due.due(44, "i -1", Due.thrown(x, 7, -1), 2);
        Due.due(44, "i 2", Due.thrown(x, 7, 2), 2);
        Due.due(44, "i of the greatest", Due.thrown(x, 7, Integer.MAX_VALUE), 2);
        Due.due(44, "nothing", Due.thrown(x, 0, 0), 2);
        x.keep(0, 1, GOAT, 1);
        Due.due(44, "a goat", Due.thrown(x, 0, 0), 2);
    }

    private static void copy() {
        WhoeverNamesIt x = new WhoeverNamesIt();
        Due.fill(x, 0, SHORTS, 1, 2, 3, 4);
        Due.fill(x, 1, SHORTS, 9, 9, 9);
        Due.due(45, "two", x.copy(0, 1, 1, 0, 2), 2);
        Due.due(45, "the first", x.element(1, 0), 2);
        Due.due(45, "the second", x.element(1, 1), 3);
        Due.due(45, "the third stays", x.element(1, 2), 9);
        Due.due(45, "from where it came", x.element(0, 1), 2);
        Due.due(45, "none", x.copy(0, 0, 1, 0, 0), 0);
        Due.due(45, "none from the end to the end", x.copy(0, 4, 1, 3, 0), 0);
        Due.due(45, "just to the end", x.copy(0, 2, 1, 1, 2), 2);
        Due.due(45, "the last", x.element(1, 2), 4);
        Due.due(45, "the whole to itself", x.copy(0, 0, 0, 0, 4), 4);
        Due.due(45, "the last of it", x.element(0, 3), 4);
    }

    private static void copyWithin() {
        WhoeverNamesIt x = new WhoeverNamesIt();
        Due.fill(x, 0, BYTES, 1, 2, 3, 4, 5);
        Due.due(45, "up in one row", x.copy(0, 0, 0, 1, 4), 4);
        for (int i = 1; i < 5; i++) {
            Due.due(45, "up, element " + i, x.element(0, i), i);
        }
        Due.fill(x, 0, BYTES, 1, 2, 3, 4, 5);
        Due.due(45, "down in one row", x.copy(0, 1, 0, 0, 4), 4);
        for (int i = 0; i < 4; i++) {
            Due.due(45, "down, element " + i, x.element(0, i), i + 2);
        }
    }

    private static void copyRefused() {
        WhoeverNamesIt x = new WhoeverNamesIt();
        Due.fill(x, 0, BYTES, 1, 2, 3);
        Due.fill(x, 1, BYTES, 4, 5);
        Due.fill(x, 2, INTS, 4, 5);
        x.keep(3, 1, GOAT, 1);
        Due.due(45, "d -1", x.copy(-1, 0, 1, 0, 1), -1);
        Due.due(45, "d 8", x.copy(8, 0, 1, 0, 1), -1);
        Due.due(45, "e -1", x.copy(0, 0, -1, 0, 1), -1);
        Due.due(45, "e 8", x.copy(0, 0, 8, 0, 1), -1);
        Due.due(45, "from nothing", x.copy(4, 0, 1, 0, 1), -11);
        Due.due(45, "to nothing", x.copy(0, 0, 4, 0, 1), -11);
        Due.due(45, "from a goat to nothing", x.copy(3, 0, 4, 0, 1), -11);
        Due.due(45, "from nothing to a goat", x.copy(4, 0, 3, 0, 1), -11);
        Due.due(45, "from a goat", x.copy(3, 0, 1, 0, 1), -12);
        Due.due(45, "to a goat", x.copy(0, 0, 3, 0, 1), -12);
        Due.due(45, "goat to goat", x.copy(3, 0, 3, 0, 0), -12);
        Due.due(45, "bytes to ints", x.copy(0, 0, 2, 0, 1), -12);
        Due.due(45, "bytes to ints, n -1", x.copy(0, 0, 2, 0, -1), -12);
        Due.due(45, "n -1", x.copy(0, 0, 1, 0, -1), -13);
        Due.due(45, "i -1", x.copy(0, -1, 1, 0, 1), -13);
        Due.due(45, "j -1", x.copy(0, 0, 1, -1, 1), -13);
        Due.due(45, "i -1, none", x.copy(0, -1, 1, 0, 0), -13);
        Due.due(45, "too many from there", x.copy(0, 2, 1, 0, 2), -13);
        Due.due(45, "too many to there", x.copy(0, 0, 1, 1, 2), -13);
        Due.due(45, "none from behind the end", x.copy(0, 4, 1, 0, 0), -13);
        Due.due(45, "n of the greatest", x.copy(0, 1, 1, 1, Integer.MAX_VALUE), -13);
        Due.due(45, "i of the greatest", x.copy(0, Integer.MAX_VALUE, 1, 0, 2), -13);
        Due.due(45, "j of the greatest", x.copy(0, 0, 1, Integer.MAX_VALUE, 2), -13);
        Due.due(45, "n of the least", x.copy(0, 1, 1, 1, Integer.MIN_VALUE), -13);
        Due.due(45, "nothing came", x.element(1, 0), 4);
        Due.due(45, "nor there", x.element(1, 1), 5);
    }

    private static void cost() {
        int[] withFour = {4, 1, 7, 14, 5, 0, 14, 1};
        int[] withNone = {0, 1, 3, 6, 5, 0, 6, 1};
        WhoeverNamesIt x = new WhoeverNamesIt();
        for (int sort = 0; sort < 8; sort++) {
            x.keep(sort, 1, sort, 4);
            Due.due(46, "cost of sort " + sort + ", figure 4", x.cost(sort), withFour[sort]);
            x.keep(sort, 1, sort, 0);
            Due.due(46, "cost of sort " + sort + ", figure 0", x.cost(sort), withNone[sort]);
        }
    }

    private static void toss() {
        int[] withFour = {4, -15, 104, 104, -15, 200, 104, 201};
        WhoeverNamesIt x = new WhoeverNamesIt();
        for (int sort = 0; sort < 8; sort++) {
            x.keep(sort, 1, sort, 4);
            Due.due(47, "failure of sort " + sort + ", figure 4", x.toss(sort), withFour[sort]);
            Due.due(47, "it is there still", x.cost(sort) >= 0 ? 1 : 0, 1);
            x.keep(sort, 1, sort, 0);
            Due.due(47, "failure of sort " + sort + ", figure 0", x.toss(sort), -15);
        }
        x.keep(0, 1, ASS, 9);
        Due.due(47, "an ass of figure 9", x.toss(0), 109);
        x.keep(0, 1, WOLF, 9);
        Due.due(47, "a wolf of figure 9", x.toss(0), 200);
        x.keep(0, 1, GOAT, 1);
        Due.due(47, "a goat of figure 1", x.toss(0), 1);
    }

    private static void refusalsOfBeasts() {
        WhoeverNamesIt x = new WhoeverNamesIt();
        x.row(1, BYTES, 1);
        for (int d = -1; d <= 8; d += 9) {
            Due.due(46, "cost, shelf " + d, x.cost(d), -1);
            Due.due(47, "toss, shelf " + d, x.toss(d), -1);
        }
        Due.due(46, "cost of nothing", x.cost(0), -11);
        Due.due(47, "toss of nothing", x.toss(0), -11);
        Due.due(46, "cost of a row", x.cost(1), -12);
        Due.due(47, "toss of a row", x.toss(1), -12);
    }
}
