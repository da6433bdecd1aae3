import java.util.function.ToLongFunction;

/**
 * ==== III., the image, the shelves and the REFUSALS: the sentences that name an edge, and that nothing changes with a
 * refused call. Above each method its sentence.
 */
public final class EdgeShelfTest {
    private static final int GOAT = 0;
    private static final int LAMB = 1;
    private static final int BULL = 2;
    private static final int MARE = 3;
    private static final int DOG = 4;
    private static final int WOLF = 5;
    private static final int ASS = 6;
    private static final int WHELP = 7;

    private static final int BYTES = 0;
    private static final int SHORTS = 1;
    private static final int INTS = 2;

    private static final int LEAST = Integer.MIN_VALUE;
    private static final int GREATEST = Integer.MAX_VALUE;
    private static final int[] NO_SHELF = {-1, 8, LEAST, GREATEST};

    private static int refusals = 0;

    public static void main(String[] args) {
        nothingAtFirst();
        noSuchShelf();
        imageNone();
        imageStays();
        imageOfTheLastDay();
        imageOfNothing();
        countOthers();
        keepEdges();
        keepTakesThePlaceOfAll();
        rowOfNoneAndOfAHundred();
        rowRefused();
        lowestBits();
        putAtTheEnds();
        elementThrows();
        copyEdges();
        copyOfNone();
        copyInOneRow();
        copyOfEachKind();
        copyRefusals();
        costOfEach();
        failureOfEach();
        shelvesStay();
        nothingChanges();
        Due.end("EdgeShelfTest");
    }

    /** "SHELVES 0 .. 7 each hold nothing (at first)", "-11 nothing is held where something is wanted". */
    private static void nothingAtFirst() {
        WhoeverNamesIt x = new WhoeverNamesIt();
        Due.come(x, GOAT, 1, 1);
        x = new WhoeverNamesIt();
        x.keep(0, 1, GOAT, 1);
        x.comes(0, 1);
        x.keep(0, 0, 0, 0);
        for (int d = 0; d <= 7; d++) {
            Due.due(2, "mountain(" + d + ")", x.mountain(d), -11);
            Due.due(5, "comes(" + d + ")", x.comes(d, 0), -11);
            Due.due(29, "whatIs(" + d + ")", x.whatIs(d, 0, 0), -11);
            Due.due(30, "whereFrom(" + d + ")", x.whereFrom(d, 0), -11);
            Due.due(31, "whose(" + d + ")", x.whose(d, 0), -11);
            Due.due(35, "forged(" + d + ")", x.forged(d), -11);
            Due.due(36, "judge(" + d + ")", x.judge(d), -11);
            Due.due(43, "put(" + d + ")", x.put(d, 0, 0), -11);
            Due.due(44, "element(" + d + ")", Due.thrown(x, d, 0), 2);
            Due.due(45, "copy(" + d + ")", x.copy(d, 0, d, 0, 0), -11);
            Due.due(46, "cost(" + d + ")", x.cost(d), -11);
            Due.due(47, "toss(" + d + ")", x.toss(d), -11);
        }
    }

    /** "-1 no such one": no such shelf, ahead of all else. */
    private static void noSuchShelf() {
        WhoeverNamesIt x = new WhoeverNamesIt();
        Due.fill(x, 0, BYTES, 1);
        for (int d : NO_SHELF) {
            Due.due(2, "mountain(" + d + ")", x.mountain(d), -1);
            Due.due(5, "comes(" + d + ")", x.comes(d, 0), -1);
            Due.due(35, "forged(" + d + ")", x.forged(d), -1);
            Due.due(36, "judge(" + d + ")", x.judge(d), -1);
            Due.due(41, "keep(" + d + ", 0)", x.keep(d, 0, 0, 0), -1);
            Due.due(41, "keep(" + d + ", 1)", x.keep(d, 1, 0, 0), -1);
            Due.due(42, "row(" + d + ")", x.row(d, 0, 1), -1);
            Due.due(42, "row(" + d + ", n -1)", x.row(d, 0, -1), -1);
            Due.due(43, "put(" + d + ")", x.put(d, 0, 0), -1);
            Due.due(44, "element(" + d + ")", Due.thrown(x, d, 0), 1);
            Due.due(44, "element(" + d + "), no such place", Due.thrown(x, d, -1), 1);
            Due.due(45, "copy(" + d + ")", x.copy(d, 0, 0, 0, 1), -1);
            Due.due(45, "copy to " + d, x.copy(0, 0, d, 0, 1), -1);
            Due.due(45, "copy to " + d + " from nothing", x.copy(1, 0, d, 0, 1), -1);
            Due.due(46, "cost(" + d + ")", x.cost(d), -1);
            Due.due(47, "toss(" + d + ")", x.toss(d), -1);
        }
    }

    /** "-3 there is none". */
    private static void imageNone() {
        WhoeverNamesIt x = new WhoeverNamesIt();
        Due.due(39, "none", x.restore(), -3);
        x.days(4);
        Due.due(39, "none still", x.restore(), -3);
        Due.due(40, "nothing changes", x.count(1), 4);
        Due.due(38, "the image", x.image(), 4);
        Due.due(39, "there is one", x.restore(), 4);
        Due.due(39, "another object has none", new WhoeverNamesIt().restore(), -3);
    }

    /** "all that there is, but SHELVES (and THE IMAGE); RESTORED all is as it was then": again and again. */
    private static void imageStays() {
        WhoeverNamesIt x = new WhoeverNamesIt();
        Due.tell(x, "b0512;b2703;c21;p3214123;d07;");
        Due.dead(x, 1, LAMB, 9);
        String then = state(x);
        x.image();
        for (int i = 0; i < 2; i++) {
            Due.tell(x, "g000;p0100001;p1202002;p2303003;p3004004;p4105005;b4011;c03;u1;d60;");
            Due.due(39, "it changed", x.count(0), 4);
            Due.due(39, "restore()", x.restore(), 12);
            Due.due(39, "all is as it was then", state(x).equals(then) ? 1 : 0, 1);
        }
        Due.due(38, "an image of what was restored", x.image(), 12);
        x.stands(0, 1);
        x.restore();
        Due.due(39, "all is as it was then", state(x).equals(then) ? 1 : 0, 1);
    }

    private static void imageOfTheLastDay() {
        WhoeverNamesIt x = new WhoeverNamesIt();
        for (int i = 0; i < 16; i++) {
            x.days(60);
        }
        Due.due(38, "day 960", x.image(), 960);
        x.days(39);
        Due.due(12, "behind 999", x.days(1), -3);
        Due.due(39, "day 960 again", x.restore(), 960);
        Due.due(12, "39 days more", x.days(39), 0);
        Due.due(38, "day 999", x.image(), 999);
        Due.due(39, "day 999 again", x.restore(), 999);
    }

    private static void imageOfNothing() {
        WhoeverNamesIt x = new WhoeverNamesIt();
        x.image();
        for (int b = 0; b < 9; b++) {
            Due.come(x, GOAT, 1, 1);
        }
        x.keep(0, 1, GOAT, 1);
        Due.due(5, "no room", x.comes(0, 0), -2);
        Due.due(39, "restore()", x.restore(), 0);
        Due.due(40, "no beasts", x.count(0), 0);
        Due.due(40, "none alive", x.count(2), 0);
        Due.due(3, "no such beast", x.beast(0, 0), -1);
        for (int b = 0; b < 9; b++) {
            Due.due(5, "room again", x.comes(0, b), b);
        }
        Due.due(5, "no room again", x.comes(0, 0), -2);
    }

    /** "-1 for others". */
    private static void countOthers() {
        WhoeverNamesIt x = new WhoeverNamesIt();
        for (int what : new int[] {-1, 5, 6, LEAST, GREATEST}) {
            Due.due(40, "count(" + what + ")", x.count(what), -1);
        }
        for (int b = 0; b < 9; b++) {
            Due.come(x, LAMB, 9, 0);
            x.calls(b % 5, b);
        }
        Due.due(40, "all nine", x.count(0), 9);
        Due.due(40, "all alive", x.count(2), 511);
        Due.due(40, "all called", x.count(3), 511);
        for (int p = 0; p < 5; p++) {
            x.means(p, 0);
        }
        x.days(5);
        Due.due(40, "nine still", x.count(0), 9);
        Due.due(40, "none alive", x.count(2), 0);
        Due.due(40, "none called", x.count(3), 0);
        Due.due(40, "no means", x.count(4), 0);
    }

    /** "what = 0 nothing (the others do not matter); 1 a BEAST of SORT k with a FIGURE: 0. -1". */
    private static void keepEdges() {
        WhoeverNamesIt x = new WhoeverNamesIt();
        for (int odd : new int[] {-1, 8, 10, LEAST, GREATEST}) {
            x.keep(0, 1, DOG, 3);
            Due.due(41, "a sort " + odd, x.keep(0, 1, odd, 0), -1);
            Due.due(41, "a figure " + odd, x.keep(0, 1, GOAT, odd == 8 ? 10 : odd), -1);
            Due.due(41, "what " + odd, x.keep(0, odd, GOAT, 0), -1);
            Due.due(41, "the dog stays", x.cost(0), 5);
            Due.due(41, "nothing, with " + odd, x.keep(0, 0, odd, odd), 0);
            Due.due(41, "nothing is there", x.cost(0), -11);
            Due.due(41, "nothing again", x.keep(0, 0, odd, odd), 0);
        }
        Due.due(41, "what 2", x.keep(0, 2, GOAT, 0), -1);
        for (int d = 0; d <= 7; d++) {
            Due.due(41, "sort and figure, shelf " + d, x.keep(d, 1, 7 - d, d + 2), 0);
            Due.due(5, "it comes", x.comes(d, 15), d);
            Due.due(3, "sort", x.beast(d, 0), 7 - d);
            Due.due(3, "figure", x.beast(d, 1), d + 2);
        }
    }

    /** A shelf holds one thing: nothing, a BEAST or a ROW. */
    private static void keepTakesThePlaceOfAll() {
        WhoeverNamesIt x = new WhoeverNamesIt();
        x.row(3, INTS, 5);
        x.keep(3, 1, BULL, 5);
        Due.due(41, "a bull", x.cost(3), 8);
        Due.due(41, "no row", Due.thrown(x, 3, 0), 2);
        Due.due(43, "no row to put in", x.put(3, 0, 1), -12);
        x.row(3, INTS, 5);
        Due.due(42, "a row", x.element(3, 4), 0);
        Due.due(42, "no bull", x.cost(3), -12);
        Due.due(42, "no bull to throw", x.toss(3), -12);
        Due.due(42, "no bull to come", x.comes(3, 0), -12);
        x.keep(3, 0, 0, 0);
        Due.due(41, "nothing", Due.thrown(x, 3, 0), 2);
        Due.due(41, "nothing to copy", x.copy(3, 0, 3, 0, 0), -11);
        Due.due(41, "other shelves hold nothing still", x.cost(2), -11);
    }

    /** "0 .. 100 elements, 0 at first". */
    private static void rowOfNoneAndOfAHundred() {
        for (int kind = BYTES; kind <= INTS; kind++) {
            WhoeverNamesIt x = new WhoeverNamesIt();
            Due.due(42, "100 of kind " + kind, x.row(0, kind, 100), 0);
            for (int i = 0; i < 100; i++) {
                Due.due(42, "0 at first, element " + i, x.element(0, i), 0);
                x.put(0, i, i + 1);
            }
            Due.due(42, "the hundredth", x.element(0, 99), 100);
            Due.due(42, "no more than 100", Due.thrown(x, 0, 100), 2);
            Due.due(42, "anew", x.row(0, kind, 100), 0);
            Due.due(42, "0 again, the first", x.element(0, 0), 0);
            Due.due(42, "0 again, the last", x.element(0, 99), 0);
            Due.due(42, "none of kind " + kind, x.row(0, kind, 0), 0);
            Due.due(42, "no first", Due.thrown(x, 0, 0), 2);
            Due.due(43, "no place to put in", x.put(0, 0, 1), -13);
            Due.due(42, "one", x.row(0, kind, 1), 0);
            Due.due(42, "the first", x.element(0, 0), 0);
            Due.due(42, "no second", Due.thrown(x, 0, 1), 2);
        }
    }

    /** "-1 (n above 100); -14" in their order; the row that was there stays. */
    private static void rowRefused() {
        WhoeverNamesIt x = new WhoeverNamesIt();
        Due.fill(x, 0, SHORTS, 7, 8);
        Due.due(42, "n 101", x.row(0, BYTES, 101), -1);
        Due.due(42, "n of the greatest", x.row(0, BYTES, GREATEST), -1);
        Due.due(42, "n -1", x.row(0, BYTES, -1), -14);
        Due.due(42, "n of the least", x.row(0, BYTES, LEAST), -14);
        for (int sort : new int[] {-1, 3, LEAST, GREATEST}) {
            Due.due(42, "kind " + sort, x.row(0, sort, 1), -1);
            Due.due(42, "kind " + sort + ", n -1", x.row(0, sort, -1), -1);
            Due.due(42, "kind " + sort + ", n 101", x.row(0, sort, 101), -1);
        }
        Due.due(42, "the row stays", x.element(0, 1), 8);
        Due.due(42, "with its size", Due.thrown(x, 0, 2), 2);
        x.put(0, 0, 32767);
        Due.due(42, "and its kind", x.element(0, 0), 32767);
    }

    /** "what is put in keeps its lowest bits". */
    private static void lowestBits() {
        int[] put = {0, 127, 128, 255, 256, -1, -128, -129, 32767, 32768, 65535, 65536, -32768, -32769, GREATEST, LEAST};
        long[] bytes = {0, 127, -128, -1, 0, -1, -128, 127, -1, 0, -1, 0, 0, -1, -1, 0};
        long[] shorts = {0, 127, 128, 255, 256, -1, -128, -129, 32767, -32768, -1, 0, -32768, 32767, -1, 0};
        WhoeverNamesIt x = new WhoeverNamesIt();
        x.row(0, BYTES, put.length);
        x.row(1, SHORTS, put.length);
        x.row(2, INTS, put.length);
        for (int i = 0; i < put.length; i++) {
            for (int d = 0; d <= 2; d++) {
                Due.due(43, "put", x.put(d, i, put[i]), 0);
            }
            Due.due(43, put[i] + " in bytes", x.element(0, i), bytes[i]);
            Due.due(43, put[i] + " in shorts", x.element(1, i), shorts[i]);
            Due.due(43, put[i] + " in ints", x.element(2, i), put[i]);
        }
    }

    /** "-1, -11, -12, -13" of put, "-13 a place that isn't there". */
    private static void putAtTheEnds() {
        WhoeverNamesIt x = new WhoeverNamesIt();
        Due.fill(x, 0, INTS, 1, 2, 3);
        for (int i : new int[] {-1, 3, 99, 100, LEAST, GREATEST}) {
            Due.due(43, "place " + i, x.put(0, i, 9), -13);
            Due.due(43, "place " + i + " of nothing", x.put(1, i, 9), -11);
            Due.due(43, "place " + i + " of no shelf", x.put(8, i, 9), -1);
        }
        x.keep(1, 1, GOAT, 1);
        Due.due(43, "place -1 of a goat", x.put(1, -1, 9), -12);
        Due.due(43, "the first", x.put(0, 0, 7), 0);
        Due.due(43, "the last", x.put(0, 2, 9), 0);
        Due.due(43, "the first is", x.element(0, 0), 7);
        Due.due(43, "the second is", x.element(0, 1), 2);
        Due.due(43, "the last is", x.element(0, 2), 9);
    }

    /** "IllegalArgumentException: no such SHELF; IllegalStateException: no ROW, no such place". */
    private static void elementThrows() {
        WhoeverNamesIt x = new WhoeverNamesIt();
        Due.fill(x, 0, BYTES, 1, 2, 3);
        x.keep(1, 1, BULL, 1);
        for (int i : new int[] {-1, 3, 99, 100, LEAST, GREATEST}) {
            Due.due(44, "no such place " + i, Due.thrown(x, 0, i), 2);
            Due.due(44, "no row, a bull, place " + i, Due.thrown(x, 1, i), 2);
            Due.due(44, "no row, nothing, place " + i, Due.thrown(x, 2, i), 2);
            Due.due(44, "no such shelf, place " + i, Due.thrown(x, 8, i), 1);
        }
        Due.due(44, "a bull, place 0", Due.thrown(x, 1, 0), 2);
        Due.due(44, "the first", Due.thrown(x, 0, 0), 0);
        Due.due(44, "the last", x.element(0, 2), 3);
        x.keep(0, 0, 0, 0);
        Due.due(44, "nothing where a row was", Due.thrown(x, 0, 0), 2);
    }

    /** "n elements of the ROW in SHELF d from i on come to that in SHELF e from j on: n". */
    private static void copyEdges() {
        WhoeverNamesIt x = new WhoeverNamesIt();
        x.row(0, INTS, 100);
        x.row(1, INTS, 100);
        x.put(0, 0, 5);
        x.put(0, 99, 7);
        Due.due(45, "a hundred", x.copy(0, 0, 1, 0, 100), 100);
        Due.due(45, "the first", x.element(1, 0), 5);
        Due.due(45, "the last", x.element(1, 99), 7);
        Due.due(45, "101", x.copy(0, 0, 1, 0, 101), -13);
        Due.due(45, "the last to the first", x.copy(0, 99, 1, 0, 1), 1);
        Due.due(45, "it is there", x.element(1, 0), 7);
        Due.due(45, "the first to the last", x.copy(0, 0, 1, 99, 1), 1);
        Due.due(45, "it is there", x.element(1, 99), 5);
        Due.due(45, "two from the last", x.copy(0, 99, 1, 0, 2), -13);
        Due.due(45, "two to the last", x.copy(0, 0, 1, 99, 2), -13);
        Due.due(45, "one from behind the last", x.copy(0, 100, 1, 0, 1), -13);
        Due.due(45, "one to behind the last", x.copy(0, 0, 1, 100, 1), -13);
        Due.due(45, "nothing came", x.element(1, 0), 7);
        Due.due(45, "nor there", x.element(1, 99), 5);
    }

    /** Of 0 elements each place up to the end is there, and none behind it or ahead of the first. */
    private static void copyOfNone() {
        WhoeverNamesIt x = new WhoeverNamesIt();
        Due.fill(x, 0, BYTES, 1, 2);
        x.row(1, BYTES, 0);
        Due.due(45, "none to an empty row", x.copy(0, 0, 1, 0, 0), 0);
        Due.due(45, "none of an empty row", x.copy(1, 0, 0, 0, 0), 0);
        Due.due(45, "none of it to itself", x.copy(1, 0, 1, 0, 0), 0);
        Due.due(45, "one to an empty row", x.copy(0, 0, 1, 0, 1), -13);
        Due.due(45, "one of an empty row", x.copy(1, 0, 0, 0, 1), -13);
        Due.due(45, "none from the end", x.copy(0, 2, 1, 0, 0), 0);
        Due.due(45, "none from behind it", x.copy(0, 3, 1, 0, 0), -13);
        Due.due(45, "none to behind the end", x.copy(0, 0, 1, 1, 0), -13);
        Due.due(45, "none from -1", x.copy(0, -1, 1, 0, 0), -13);
        Due.due(45, "none to -1", x.copy(0, 0, 1, -1, 0), -13);
        Due.due(45, "none from the greatest", x.copy(0, GREATEST, 1, 0, 0), -13);
        Due.due(45, "none to the least", x.copy(0, 0, 1, LEAST, 0), -13);
    }

    /** In one row the elements that come are those that were there ahead of the call. */
    private static void copyInOneRow() {
        for (int kind = BYTES; kind <= INTS; kind++) {
            for (int from = 0; from <= 3; from++) {
                for (int to = 0; to <= 3; to++) {
                    WhoeverNamesIt x = new WhoeverNamesIt();
                    Due.fill(x, 0, kind, 10, 11, 12, 13, 14, 15);
                    Due.due(45, "three in one row", x.copy(0, from, 0, to, 3), 3);
                    for (int i = 0; i < 6; i++) {
                        int due = i >= to && i < to + 3 ? 10 + from + i - to : 10 + i;
                        Due.due(45, "from " + from + " to " + to + ", element " + i, x.element(0, i), due);
                    }
                }
            }
        }
    }

    /** "-12 (no ROWS of one kind)". */
    private static void copyOfEachKind() {
        for (int kind = BYTES; kind <= INTS; kind++) {
            for (int other = BYTES; other <= INTS; other++) {
                WhoeverNamesIt x = new WhoeverNamesIt();
                Due.fill(x, 0, kind, -1, 2);
                Due.fill(x, 1, other, 3, 4);
                Due.due(45, "kind " + kind + " to kind " + other, x.copy(0, 0, 1, 0, 2), kind == other ? 2 : -12);
                Due.due(45, "what is there", x.element(1, 0), kind == other ? -1 : 3);
                Due.due(45, "from where it came", x.element(0, 0), -1);
            }
        }
    }

    /** "-1, -11 (either), -12 (no ROWS of one kind), -13 (n below 0, too)" in their order. */
    private static void copyRefusals() {
        WhoeverNamesIt x = new WhoeverNamesIt();
        Due.fill(x, 0, BYTES, 1, 2);
        Due.fill(x, 1, BYTES, 3, 4);
        Due.fill(x, 2, SHORTS, 3, 4);
        x.keep(3, 1, GOAT, 1);
        Due.due(45, "no shelf ahead of nothing", x.copy(4, 9, 8, 9, -9), -1);
        Due.due(45, "nothing ahead of a goat", x.copy(3, 9, 4, 9, -9), -11);
        Due.due(45, "nothing ahead of a goat, the other way", x.copy(4, 9, 3, 9, -9), -11);
        Due.due(45, "a goat ahead of n", x.copy(3, 9, 0, 9, -9), -12);
        Due.due(45, "a goat ahead of n, the other way", x.copy(0, 9, 3, 9, -9), -12);
        Due.due(45, "another kind ahead of n", x.copy(0, 9, 2, 9, -9), -12);
        Due.due(45, "goat and goat", x.copy(3, 0, 3, 0, 1), -12);
        Due.due(45, "n -1", x.copy(0, 0, 1, 0, -1), -13);
        Due.due(45, "n -1 behind the first", x.copy(0, 1, 1, 1, -1), -13);
        Due.due(45, "n of the least", x.copy(0, 0, 1, 0, LEAST), -13);
        Due.due(45, "n of the greatest", x.copy(0, 0, 1, 0, GREATEST), -13);
        Due.due(45, "i and n of the greatest", x.copy(0, GREATEST, 1, 0, GREATEST), -13);
        Due.due(45, "j and n of the greatest", x.copy(0, 0, 1, GREATEST, GREATEST), -13);
        Due.due(45, "i of the least, n of the least", x.copy(0, LEAST, 1, LEAST, LEAST), -13);
        Due.due(45, "nothing came", x.element(1, 0), 3);
        Due.due(45, "nor there", x.element(1, 1), 4);
    }

    /** COST of each with each FIGURE. */
    private static void costOfEach() {
        WhoeverNamesIt x = new WhoeverNamesIt();
        for (int f = 0; f <= 9; f++) {
            int[] due = {f, 1, f + 3, 2 * (f + 3), 5, 0, 2 * (f + 3), 1};
            for (int sort = GOAT; sort <= WHELP; sort++) {
                x.keep(1, 1, sort, f);
                Due.due(46, "sort " + sort + ", figure " + f, x.cost(1), due[sort]);
            }
        }
    }

    /** "-15: LAMBS, DOGS, and any with FIGURE 0, have none". */
    private static void failureOfEach() {
        WhoeverNamesIt x = new WhoeverNamesIt();
        for (int f = 0; f <= 9; f++) {
            int[] due = {f, -15, 100 + f, 100 + f, -15, 200, 100 + f, 201};
            for (int sort = GOAT; sort <= WHELP; sort++) {
                x.keep(1, 1, sort, f);
                Due.due(47, "sort " + sort + ", figure " + f, x.toss(1), f == 0 ? -15 : due[sort]);
            }
        }
    }

    /** "what is taken from a SHELF, stay there". */
    private static void shelvesStay() {
        WhoeverNamesIt x = new WhoeverNamesIt();
        x.keep(0, 1, ASS, 6);
        x.image();
        for (int i = 0; i < 3; i++) {
            Due.due(5, "comes", x.comes(0, 3), i);
            Due.due(46, "costs", x.cost(0), 18);
            Due.due(47, "is thrown", x.toss(0), 106);
        }
        Due.fill(x, 1, INTS, 4, 5);
        x.restore();
        Due.due(39, "the ass stays when the image is restored", x.cost(0), 18);
        Due.due(39, "the row stays", x.element(1, 1), 5);
        x.keep(0, 0, 0, 0);
        x.restore();
        Due.due(39, "nothing stays nothing", x.cost(0), -11);
    }

    /** The mountain's state, and what the first shelves hold. */
    private static String state(WhoeverNamesIt x) {
        StringBuilder all = new StringBuilder(Due.state(x));
        for (int d = 0; d < 4; d++) {
            all.append(x.cost(d)).append(' ');
            for (int i = 0; i < 4; i++) {
                all.append(Due.thrown(x, d, i) == 0 ? x.element(d, i) : -999).append(' ');
            }
        }
        return all.toString();
    }

    /** A day of the last, nine beasts, one of them dead; a wolf, bytes, shorts and nothing on the shelves; an image. */
    private static WhoeverNamesIt full() {
        WhoeverNamesIt x = new WhoeverNamesIt();
        x.image();
        for (int i = 0; i < 16; i++) {
            x.days(60);
        }
        x.days(34);
        Due.dead(x, 0, MARE, 3);
        for (int b = 1; b < 9; b++) {
            Due.come(x, b - 1, b, b);
        }
        x.calls(1, 1);
        x.keep(0, 1, WOLF, 0);
        Due.fill(x, 1, BYTES, 1, 2, 3);
        Due.fill(x, 2, SHORTS, 'd', '0', '1', ';');
        return x;
    }

    private static void refused(String call, ToLongFunction<WhoeverNamesIt> made, long due) {
        WhoeverNamesIt x = full();
        String before = state(x);
        Due.due(0, call, made.applyAsLong(x), due);
        Due.due(0, "nothing changes by " + call, state(x).equals(before) ? 1 : 0, 1);
        refusals++;
    }

    /** "REFUSALS (answers; nothing changes)". */
    private static void nothingChanges() {
        refused("comes(0, 16)", x -> x.comes(0, 16), -1);
        refused("comes(0, 0)", x -> x.comes(0, 0), -2);
        refused("comes(1, 0)", x -> x.comes(1, 0), -12);
        refused("comes(3, 0)", x -> x.comes(3, 0), -11);
        refused("stands(0, 9)", x -> x.stands(0, 9), -3);
        refused("stands(1, 16)", x -> x.stands(1, 16), -1);
        refused("stands(9, 0)", x -> x.stands(9, 0), -1);
        refused("walks(5, 0)", x -> x.walks(5, 0), -1);
        refused("walks(0, -1)", x -> x.walks(0, -1), -1);
        refused("calls(2, 0)", x -> x.calls(2, 0), -3);
        refused("calls(5, 1)", x -> x.calls(5, 1), -1);
        refused("calls(2, 9)", x -> x.calls(2, 9), -1);
        refused("answers(0)", x -> x.answers(0), -3);
        refused("answers(2)", x -> x.answers(2), -3);
        refused("answers(9)", x -> x.answers(9), -1);
        refused("tongue(0, 4)", x -> x.tongue(0, 4), -1);
        refused("tongue(5, 1)", x -> x.tongue(5, 1), -1);
        refused("means(0, 1000)", x -> x.means(0, 1000), -1);
        refused("means(0, -1)", x -> x.means(0, -1), -1);
        refused("days(0)", x -> x.days(0), -1);
        refused("days(1)", x -> x.days(1), -3);
        refused("days(60)", x -> x.days(60), -3);
        refused("days(61)", x -> x.days(61), -1);
        refused("mountain(1)", x -> x.mountain(1), -1000);
        refused("mountain(2)", x -> x.mountain(2), -12);
        refused("mountain(0)", x -> x.mountain(0), -12);
        refused("keep(1, 2)", x -> x.keep(1, 2, 0, 0), -1);
        refused("keep(1, 1), sort 8", x -> x.keep(1, 1, 8, 0), -1);
        refused("keep(0, 1), figure 10", x -> x.keep(0, 1, 0, 10), -1);
        refused("row(0), n 101", x -> x.row(0, BYTES, 101), -1);
        refused("row(1), n -1", x -> x.row(1, BYTES, -1), -14);
        refused("row(1), kind 3", x -> x.row(1, 3, 1), -1);
        refused("put(1, 3)", x -> x.put(1, 3, 9), -13);
        refused("put(0, 0)", x -> x.put(0, 0, 9), -12);
        refused("put(3, 0)", x -> x.put(3, 0, 9), -11);
        refused("copy to another kind", x -> x.copy(1, 0, 2, 0, 1), -12);
        refused("copy of too many", x -> x.copy(1, 0, 1, 1, 3), -13);
        refused("toss(0)", x -> x.toss(0), -15);
        refused("share(5)", x -> x.share(5, 0), 1000000001L);
        refused("snow(9)", x -> x.snow(9, 0, 2, 0), 1000000001L);
        Due.due(0, "how many were tried", refusals, 40);
        WhoeverNamesIt x = full();
        x.days(1);
        x.comes(0, 0);
        Due.due(39, "a refused call leaves the image", x.restore(), 0);
    }
}
