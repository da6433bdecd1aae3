/** Promises 29 to 37: what sort one is, whose; told books; mountains by seeds. Worked out by hand. */
public final class SortTest {
    private static final int GOAT = 0;
    private static final int LAMB = 1;
    private static final int BULL = 2;
    private static final int DOG = 4;

    private static final int POET = 3;

    private static final int BYTES = 0;
    private static final int SHORTS = 1;
    private static final int INTS = 2;
    private static final int LEAST = Integer.MIN_VALUE;

    private static final long REFUSED = 1000000001L;

    public static void main(String[] args) {
        sortsOf();
        figuresOf();
        whatIsRefused();
        whereFrom();
        whose();
        two();
        twoWithGrief();
        twoWithoutRest();
        snow();
        share();
        forged();
        judge();
        mountains();
        rowRefusals();
        Due.end("SortTest");
    }

    private static int sorts(WhoeverNamesIt x, int kind, int... row) {
        Due.fill(x, 0, kind, row);
        return x.whatIs(0, 0, 0);
    }

    private static int figures(WhoeverNamesIt x, int kind, int... row) {
        Due.fill(x, 0, kind, row);
        return x.whatIs(0, 0, 1);
    }

    private static void sortsOf() {
        WhoeverNamesIt x = new WhoeverNamesIt();
        Due.come(x, GOAT, 0, 5);
        Due.due(29, "goat, bull, dog go to the nearest", sorts(x, BYTES, 5, 6), 1 + 4 + 16);
        Due.due(29, "mare, ass to the richest, wolf, whelp away", sorts(x, SHORTS, 5, 4), 8 + 32 + 64 + 128);
        Due.due(29, "lamb stays", sorts(x, INTS, 5, 5), 2);
        Due.due(29, "the ass rests on day 2", sorts(x, BYTES, 5, 4, 4), 64);
        Due.due(29, "not there now", sorts(x, BYTES, 4), 0);
        Due.due(29, "an empty row", sorts(x, BYTES), 255);
        Due.due(29, "skipped, bytes", sorts(x, BYTES, -128, 5), 2);
        Due.due(29, "skipped, shorts", sorts(x, SHORTS, -32768, 5), 2);
        Due.due(29, "skipped, ints", sorts(x, INTS, LEAST, 5), 2);
        Due.due(29, "all skipped", sorts(x, INTS, LEAST, LEAST), 255);
        Due.due(29, "-128 among shorts is no place", sorts(x, SHORTS, -128, 5), 0);
        Due.due(29, "-32768 among ints is no place", sorts(x, INTS, -32768, 5), 0);
        Due.due(29, "-128 among ints is no place", sorts(x, INTS, -128, 5), 0);
        Due.due(29, "-127 is no place", sorts(x, BYTES, -127, 5), 0);
        Due.due(29, "128 among bytes is skipped", sorts(x, BYTES, 128, 5), 2);
        int[] longest = new int[100];
        java.util.Arrays.fill(longest, -128);
        longest[98] = 15;
        longest[99] = 14;
        Due.due(29, "99 days on nothing goes back", sorts(x, BYTES, longest), 0);
        longest[98] = 0;
        longest[99] = 0;
        Due.due(29, "99 days on: who is at 0", sorts(x, BYTES, longest), 8 + 64);
        Due.due(29, "it is a goat still", x.beast(0, 0), GOAT);
    }

    private static void figuresOf() {
        WhoeverNamesIt x = new WhoeverNamesIt();
        Due.come(x, LAMB, 9, 5);
        Due.due(29, "goes on day 2", figures(x, BYTES, 5, 5, 6), 1);
        Due.due(29, "goes on day 3", figures(x, BYTES, 5, 5, 5, 6), 2);
        Due.due(29, "goes on day 11", figures(x, BYTES, 5, 5, 5, 5, 5, 5, 5, 5, 5, 5, 5, 6), 512);
        Due.due(29, "goes later than day 3", figures(x, BYTES, 5, 5, 5, 5), 1023 - 3);
        Due.due(29, "an empty row", figures(x, BYTES), 1023);
        Due.due(29, "it has its figure still", x.beast(0, 1), 9);
        WhoeverNamesIt y = new WhoeverNamesIt();
        Due.come(y, BULL, 9, 5);
        Due.due(29, "a bull goes with hunger 0", figures(y, BYTES, 5, 6), 1);
        Due.due(29, "a bull goes with hunger 1", figures(y, BYTES, 5, 5, 6), 2);
        Due.due(29, "of a goat, a figure tells nothing", figures(goatAtFive(), BYTES, 5, 6), 1023);
        WhoeverNamesIt z = new WhoeverNamesIt();
        int gone = Due.dead(z, 0, GOAT, 0);
        Due.fill(z, 0, BYTES, 0, 0, 0);
        Due.due(29, "one dead stays", z.whatIs(0, gone, 0), 255);
        Due.due(29, "one dead stays, figures", z.whatIs(0, gone, 1), 1023);
    }

    private static WhoeverNamesIt goatAtFive() {
        WhoeverNamesIt x = new WhoeverNamesIt();
        Due.come(x, GOAT, 3, 5);
        return x;
    }

    private static void whatIsRefused() {
        WhoeverNamesIt x = goatAtFive();
        Due.fill(x, 0, BYTES, 5);
        Due.due(29, "b -1", x.whatIs(0, -1, 0), -1);
        Due.due(29, "b 1", x.whatIs(0, 1, 0), -1);
        Due.due(29, "what -1", x.whatIs(0, 0, -1), -1);
        Due.due(29, "what 2", x.whatIs(0, 0, 2), -1);
        Due.due(29, "nothing held and what 2", x.whatIs(1, 0, 2), -1);
    }

    private static int places(WhoeverNamesIt x, int... row) {
        Due.fill(x, 0, BYTES, row);
        return x.whereFrom(0, 0);
    }

    private static void whereFrom() {
        WhoeverNamesIt x = goatAtFive();
        Due.due(30, "to 6 on day 1", places(x, 6), 32 + 64 + 128);
        Due.due(30, "to 13 on day 1", places(x, 13), 16384);
        Due.due(30, "13, then 12", places(x, -128, 12, 12), 2048 + 4096 + 8192 + 16384);
        Due.due(30, "never", places(x, 6, 7), 0);
        Due.due(30, "an empty row", places(x), 65535);
        Due.due(30, "it is where it was", x.beast(0, 2), 5);
        Due.due(30, "b -1", x.whereFrom(0, -1), -1);
        Due.due(30, "b 1", x.whereFrom(0, 1), -1);
        int gone = Due.dead(x, 0, GOAT, 5);
        Due.due(30, "one dead", x.whereFrom(0, gone), -3);
        Due.due(30, "one dead, nothing held", x.whereFrom(1, gone), -3);
        Due.due(30, "one dead, no such shelf", x.whereFrom(8, gone), -1);
    }

    private static int callers(WhoeverNamesIt x, int... row) {
        Due.fill(x, 0, BYTES, row);
        return x.whose(0, 0);
    }

    private static void whose() {
        WhoeverNamesIt x = goatAtFive();
        x.means(2, 1);
        x.means(4, 0);
        Due.due(31, "fed", callers(x, 0, 0), 1 + 2 + 8);
        Due.due(31, "hungry by 1", callers(x, 0, 1), 32);
        Due.due(31, "hungry by 2", callers(x, 0, 2), 4 + 16);
        Due.due(31, "not so now", callers(x, 1), 0);
        Due.due(31, "an empty row", callers(x), 63);
        Due.due(31, "skipped", callers(x, -128, -128, 2), 32);
        Due.due(31, "dead behind 5", callers(x, 0, 2, 4, 6, 8, 9, 9), 4 + 16);
        Due.due(31, "by nobody still", x.beast(0, 4), -4);
        x.calls(3, 0);
        Due.due(31, "called now, it could be nobody's", callers(x, 0, 1), 32);
        Due.due(31, "called still", x.beast(0, 4), 3);
        Due.due(31, "b -1", x.whose(0, -1), -1);
        Due.due(31, "b 1", x.whose(0, 1), -1);
        int gone = Due.dead(x, 0, GOAT, 5);
        Due.due(31, "one dead", x.whose(0, gone), -3);
        Due.due(31, "one dead, nothing held", x.whose(1, gone), -3);
        Due.due(31, "one dead, no such shelf", x.whose(-1, gone), -1);
    }

    private static void two() {
        WhoeverNamesIt x = new WhoeverNamesIt();
        Due.come(x, GOAT, 1, 3);
        x.tongue(1, POET);
        x.tongue(2, POET);
        Due.due(32, "the one speaks", x.two(1, 2, 3), 10);
        Due.due(32, "the other speaks", x.two(2, 1, 3), 1);
        Due.come(x, GOAT, 1, 6);
        Due.due(32, "both speak", x.two(1, 2, 30), 11);
        Due.due(32, "nobody has anything to say", x.two(3, 4, 1), 0);
        x.tongue(1, 0);
        Due.due(32, "one without tongue", x.two(1, 2, 3), 1);
        WhoeverNamesIt y = new WhoeverNamesIt();
        Due.come(y, LAMB, 9, 3);
        y.tongue(1, POET);
        Due.due(32, "a lamb only eats", y.two(1, 2, 3), 0);
        Due.due(32, "one twice", y.two(1, 1, 3), -1);
        Due.due(32, "a -1", y.two(-1, 1, 3), -1);
        Due.due(32, "a 5", y.two(5, 1, 3), -1);
        Due.due(32, "b -1", y.two(1, -1, 3), -1);
        Due.due(32, "b 5", y.two(1, 5, 3), -1);
        Due.due(32, "n 0", y.two(1, 2, 0), -1);
        Due.due(32, "n 31", y.two(1, 2, 31), -1);
        Due.due(32, "tongue stays", y.person(1, 2), POET);
    }

    /** A dog that would die on the day of its call, and a goat that earns 1 a day. */
    private static void dogAndGoat(WhoeverNamesIt x, String when) {
        int dog = Due.come(x, DOG, 1, 3);
        x.days(8);
        int goat = Due.come(x, GOAT, 1, 3);
        int had = x.means(1, 2);
        x.tongue(1, POET);
        Due.due(32, "5 days do not outweigh a grief, " + when, x.two(1, 4, 5), 0);
        Due.due(32, "6 days do, " + when, x.two(1, 4, 6), 10);
        Due.due(32, "6 days do for the other, " + when, x.two(4, 1, 6), 1);
        x.tongue(1, 0);
        x.means(1, had);
        x.stands(dog, 15);
        x.stands(goat, 15);
    }

    private static void twoWithGrief() {
        dogAndGoat(new WhoeverNamesIt(), "without grief ahead");
        WhoeverNamesIt x = new WhoeverNamesIt();
        Due.dead(x, 1, LAMB, 12);
        dogAndGoat(x, "with grief ahead");
    }

    /**
     * Two kind ones at one place, a hungry dog (eats 3, brings 1) and a hungry ass (eats 4, brings 15) with them on
     * day 6. Who speaks first has the dog, and the ass a day later. The one (29) speaks if the other is silent, and is
     * silent if the other speaks; the other (7) speaks if the one does, and has the ass alone; but if the one is
     * silent, the dog leaves the other too poor for the ass. So there is no rest.
     */
    private static void twoWithoutRest() {
        WhoeverNamesIt x = new WhoeverNamesIt();
        Due.tell(x, "b4603;b6702;p0101029;p1101007;p2000000;p3015000;p4015000;");
        Due.due(32, "no rest", x.two(0, 1, 8), -4);
        Due.due(32, "no rest, the other first", x.two(1, 0, 8), -4);
        x.means(1, 40);
        Due.due(32, "the other is rich enough for both", x.two(0, 1, 8), 1);
    }

    private static void snow() {
        WhoeverNamesIt x = new WhoeverNamesIt();
        Due.come(x, LAMB, 9, 8);
        x.days(8);
        Due.due(33, "one of nobody, above", x.snow(0, 7, 20, 0), 1);
        Due.due(33, "one of nobody, below", x.snow(0, 7, 20, 1), 1);
        x.calls(1, 0);
        x.means(1, 1);
        Due.due(33, "1 in 2, above", x.snow(0, 1, 2, 0), 1);
        Due.due(33, "1 in 2, below", x.snow(0, 1, 2, 1), 2);
        Due.due(33, "1 in 20, above", x.snow(0, 1, 20, 0), 19);
        Due.due(33, "1 in 20, below", x.snow(0, 1, 20, 1), 20);
        Due.due(33, "two days, in least terms, above", x.snow(0, 2, 3, 0), 2);
        Due.due(33, "two days, in least terms, below", x.snow(0, 2, 3, 1), 3);
        Due.due(33, "no day, above", x.snow(0, 0, 3, 0), 1);
        Due.due(33, "no day, below", x.snow(0, 0, 3, 1), 1);
        x.means(1, 3);
        Due.due(33, "3 is enough for a day of snow", x.snow(0, 1, 20, 1), 1);
        Due.due(33, "7 days of 20, above", x.snow(0, 7, 20, 0), 1215999259L);
        Due.due(33, "7 days of 20, below", x.snow(0, 7, 20, 1), 1280000000L);
        x.means(1, 0);
        Due.due(33, "not at all, above", x.snow(0, 1, 5, 0), 0);
        Due.due(33, "not at all, below", x.snow(0, 1, 5, 1), 1);
        Due.due(33, "day", x.count(1), 8);
        Due.due(33, "b -1", x.snow(-1, 1, 2, 0), REFUSED);
        Due.due(33, "b 1", x.snow(1, 1, 2, 0), REFUSED);
        Due.due(33, "n -1", x.snow(0, -1, 2, 0), REFUSED);
        Due.due(33, "n 8", x.snow(0, 8, 2, 0), REFUSED);
        Due.due(33, "t 1", x.snow(0, 1, 1, 0), REFUSED);
        Due.due(33, "t 21", x.snow(0, 1, 21, 0), REFUSED);
        Due.due(33, "part -1", x.snow(0, 1, 2, -1), REFUSED);
        Due.due(33, "part 2", x.snow(0, 1, 2, 2), REFUSED);
        x.days(1);
        Due.due(33, "one dead, above", x.snow(0, 0, 2, 0), 0);
        Due.due(33, "one dead, below", x.snow(0, 0, 2, 1), 1);
    }

    private static void share() {
        WhoeverNamesIt x = new WhoeverNamesIt();
        Due.due(34, "a fifth, above", x.share(4, 0), 1);
        Due.due(34, "a fifth, below", x.share(4, 1), 5);
        x.means(4, 0);
        Due.due(34, "none, above", x.share(4, 0), 0);
        Due.due(34, "none, below", x.share(4, 1), 1);
        x.means(0, 999);
        x.means(1, 0);
        Due.due(34, "in least terms, above", x.share(0, 0), 999);
        Due.due(34, "in least terms, below", x.share(0, 1), 1079);
        Due.due(34, "40 of 1079, below", x.share(2, 1), 1079);
        x.means(2, 0);
        x.means(3, 0);
        Due.due(34, "all, above", x.share(0, 0), 1);
        Due.due(34, "all, below", x.share(0, 1), 1);
        x.means(0, 0);
        Due.due(34, "of nothing, above", x.share(0, 0), 0);
        Due.due(34, "of nothing, below", x.share(0, 1), 1);
        Due.due(34, "p -1", x.share(-1, 0), REFUSED);
        Due.due(34, "p 5", x.share(5, 0), REFUSED);
        Due.due(34, "part -1", x.share(0, -1), REFUSED);
        Due.due(34, "part 2", x.share(0, 2), REFUSED);
    }

    private static int book(WhoeverNamesIt x, int kind, int... row) {
        Due.fill(x, 0, kind, row);
        return x.forged(0);
    }

    private static void forged() {
        WhoeverNamesIt x = new WhoeverNamesIt();
        Due.due(35, "an empty book", book(x, BYTES), -4);
        Due.due(35, "no such beast", book(x, BYTES, 5), 0);
        Due.come(x, GOAT, 1, 0);
        Due.come(x, GOAT, 1, 1);
        Due.come(x, GOAT, 1, 2);
        x.calls(4, 1);
        x.calls(0, 2);
        Due.due(35, "true", book(x, INTS, 5, 4, 0), -4);
        Due.due(35, "less told", book(x, BYTES, 5, 4), -4);
        Due.due(35, "more told", book(x, BYTES, 5, 4, 0, 5), 3);
        Due.due(35, "the first", book(x, BYTES, 4, 4, 0), 0);
        Due.due(35, "the third", book(x, SHORTS, 5, 4, 5), 2);
        Due.due(35, "-4 is nobody's number", book(x, BYTES, -4, 4, 0), 0);
        Due.due(35, "nothing is skipped", book(x, BYTES, 5, -128, 0), 1);
        int[] longest = new int[100];
        java.util.Arrays.fill(longest, 5);
        x.answers(1);
        x.answers(2);
        Due.due(35, "a hundred", book(x, BYTES, longest), 3);
        WhoeverNamesIt y = new WhoeverNamesIt();
        Due.dead(y, 3, GOAT, 0);
        Due.due(35, "one dead is called by nobody", book(y, BYTES, 5), -4);
        Due.due(35, "one dead is not called", book(y, BYTES, 3), 0);
    }

    private static int told(WhoeverNamesIt x, int kind, int... row) {
        Due.fill(x, 0, kind, row);
        return x.judge(0);
    }

    private static void judge() {
        WhoeverNamesIt x = new WhoeverNamesIt();
        Due.come(x, GOAT, 1, 0);
        x.calls(1, 0);
        x.means(0, 0);
        Due.due(36, "empty", told(x, SHORTS), -4);
        Due.due(36, "true", told(x, SHORTS, 160, 161, 162), -4);
        Due.due(36, "not so now", told(x, SHORTS, 161, 161, 162), 0);
        Due.due(36, "not so on day 2", told(x, SHORTS, 160, 161, 163), 2);
        Due.due(36, "skipped", told(x, SHORTS, -32768, 161, -32768, 164), 3);
        Due.due(36, "skipped, bytes", told(x, BYTES, -128, -128), -4);
        Due.due(36, "160 is no byte", told(x, BYTES, -128, 161), 1);
        Due.due(36, "skipped, ints", told(x, INTS, LEAST, 161), -4);
        Due.due(36, "-128 among ints", told(x, INTS, 160, -128), 1);
        int[] longest = new int[100];
        for (int i = 0; i < 100; i++) {
            longest[i] = 160 + i;
        }
        Due.due(36, "99 days", told(x, INTS, longest), -4);
        longest[99]++;
        Due.due(36, "not on the 99th", told(x, INTS, longest), 99);
        Due.due(36, "day", x.count(1), 0);
    }

    private static void mountains() {
        WhoeverNamesIt x = new WhoeverNamesIt();
        Due.come(x, LAMB, 9, 0);
        x.tongue(2, POET);
        Due.due(37, "z 1 draws 6, there the poet is", x.mountains(1, 1, 0), 1);
        Due.due(37, "grief", x.mountains(1, 1, 1), 0);
        x.means(2, 0);
        Due.due(37, "the poet is poor: dead behind 12 days", x.mountains(1, 1, 0), 0);
        Due.due(37, "grief", x.mountains(1, 1, 1), 1);
        x.means(2, 7);
        Due.due(37, "fed 7 days, dead behind 12", x.mountains(1, 1, 1), 1);
        x.means(2, 8);
        Due.due(37, "fed 8 days, alive behind 12", x.mountains(1, 1, 1), 0);
        Due.due(37, "fed 8 days, called behind 12", x.mountains(1, 1, 0), 1);
        x.means(2, 40);
        x.walks(2, 12);
        Due.due(37, "z 2 draws 12", x.mountains(1, 2, 0), 1);
        Due.due(37, "place", x.beast(0, 2), 0);
        Due.due(37, "day", x.count(1), 0);
        Due.due(37, "n 0", x.mountains(0, 1, 0), -1);
        Due.due(37, "n 21", x.mountains(21, 1, 0), -1);
        Due.due(37, "what -1", x.mountains(1, 1, -1), -1);
        Due.due(37, "what 2", x.mountains(1, 1, 2), -1);
        Due.due(37, "of none", new WhoeverNamesIt().mountains(20, LEAST, 0), 0);
        seedGoesOn(new WhoeverNamesIt());
    }

    /** From z 1 the draws below 16 are 6, 14, 1, 11, 11, 11. */
    private static void seedGoesOn(WhoeverNamesIt x) {
        for (int p = 0; p < 5; p++) {
            x.walks(p, 15);
        }
        Due.come(x, LAMB, 9, 0);
        x.walks(1, 14);
        x.tongue(1, POET);
        Due.due(37, "6 alone", x.mountains(1, 1, 0), 0);
        Due.due(37, "6 and 14", x.mountains(2, 1, 0), 1);
        x.walks(1, 11);
        Due.due(37, "till the second 11", x.mountains(5, 1, 0), 2);
        Due.due(37, "till the third 11", x.mountains(6, 1, 0), 3);
        x.means(1, 3);
        Due.due(37, "grief of three", x.mountains(6, 1, 1), 3);
        Due.due(37, "none of the three is called then", x.mountains(6, 1, 0), 0);
        x.means(1, 40);
        Due.come(x, LAMB, 9, 0);
        x.walks(1, 14);
        Due.due(37, "14 for the second of one mountain", x.mountains(1, 1, 0), 1);
        WhoeverNamesIt y = new WhoeverNamesIt();
        Due.dead(y, 0, LAMB, 9);
        Due.come(y, LAMB, 9, 9);
        y.tongue(2, POET);
        Due.due(37, "nothing is drawn for one dead", y.mountains(1, 1, 0), 1);
        Due.due(37, "grief there already does not count", y.mountains(1, 1, 1), 0);
    }

    private static void rowRefusals() {
        WhoeverNamesIt x = goatAtFive();
        for (int d = -1; d <= 8; d += 9) {
            Due.due(29, "whatIs, shelf " + d, x.whatIs(d, 0, 0), -1);
            Due.due(30, "whereFrom, shelf " + d, x.whereFrom(d, 0), -1);
            Due.due(31, "whose, shelf " + d, x.whose(d, 0), -1);
            Due.due(35, "forged, shelf " + d, x.forged(d), -1);
            Due.due(36, "judge, shelf " + d, x.judge(d), -1);
        }
        Due.due(29, "whatIs, nothing", x.whatIs(2, 0, 0), -11);
        Due.due(30, "whereFrom, nothing", x.whereFrom(2, 0), -11);
        Due.due(31, "whose, nothing", x.whose(2, 0), -11);
        Due.due(35, "forged, nothing", x.forged(2), -11);
        Due.due(36, "judge, nothing", x.judge(2), -11);
        x.keep(2, 1, GOAT, 1);
        Due.due(29, "whatIs, a goat", x.whatIs(2, 0, 0), -12);
        Due.due(30, "whereFrom, a goat", x.whereFrom(2, 0), -12);
        Due.due(31, "whose, a goat", x.whose(2, 0), -12);
        Due.due(35, "forged, a goat", x.forged(2), -12);
        Due.due(36, "judge, a goat", x.judge(2), -12);
    }
}
