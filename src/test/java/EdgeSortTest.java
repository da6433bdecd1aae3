/**
 * What sort one is, whose; told books; mountains by seeds: the sentences that name an edge. Above each method its
 * sentence.
 */
public final class EdgeSortTest {
    private static final int GOAT = 0;
    private static final int LAMB = 1;
    private static final int BULL = 2;
    private static final int DOG = 4;
    private static final int WHELP = 7;

    private static final int POET = 3;

    private static final int LEAST = Integer.MIN_VALUE;
    private static final int[] SKIPPED = {-128, -32768, LEAST};

    private static final long REFUSED = 1000000001L;

    public static void main(String[] args) {
        sortsOfNoRow();
        leastNumberIsSkipped();
        besideTheLeastNumber();
        onlyTheOneOfItsKind();
        behindNoDayAndMore();
        whereFromBehindOne();
        whereFromFed();
        whereFromEnds();
        whoseOfAll();
        whoseOfNobody();
        refusalsInTheirOrder();
        rowsStay();
        firstPair();
        eachGriefFive();
        bothInTwo();
        snowOfAll();
        snowInLeastTerms();
        snowOddsAtTheEnds();
        snowRefused();
        shareOfNothing();
        shareInLeastTerms();
        forgedNoSuchBeast();
        forgedSkipsNothing();
        judgedSkips();
        judgedByAll();
        mountainsByHand();
        seedWrapsAround();
        mountainsGrief();
        mountainsFromNow();
        Due.end("EdgeSortTest");
    }

    /** A goat at 5, the nearest at 6: it goes there. */
    private static WhoeverNamesIt goat() {
        WhoeverNamesIt x = new WhoeverNamesIt();
        Due.come(x, GOAT, 3, 5);
        return x;
    }

    /** A ROW of 0 elements tells nothing: all of it is so, whatever is asked. */
    private static void sortsOfNoRow() {
        for (int kind = 0; kind <= 2; kind++) {
            WhoeverNamesIt x = goat();
            x.row(0, kind, 0);
            Due.due(29, "sorts, kind " + kind, x.whatIs(0, 0, 0), 255);
            Due.due(29, "figures, kind " + kind, x.whatIs(0, 0, 1), 1023);
            Due.due(30, "places, kind " + kind, x.whereFrom(0, 0), 65535);
            Due.due(31, "callers, kind " + kind, x.whose(0, 0), 63);
            Due.due(35, "forged, kind " + kind, x.forged(0), -4);
            Due.due(36, "judged, kind " + kind, x.judge(0), -4);
        }
    }

    /** "(the least number of the ROW's kind is skipped)", "likewise", "(skipped likewise)". */
    private static void leastNumberIsSkipped() {
        for (int kind = 0; kind <= 2; kind++) {
            WhoeverNamesIt x = goat();
            int skip = SKIPPED[kind];
            Due.fill(x, 0, kind, skip, 6);
            Due.due(29, "sorts, kind " + kind, x.whatIs(0, 0, 0), 1 + 16);
            Due.due(29, "figures, kind " + kind, x.whatIs(0, 0, 1), 1023);
            Due.fill(x, 0, kind, skip, 13);
            Due.due(30, "places to 13 on day 2, kind " + kind, x.whereFrom(0, 0), 32768);
            Due.fill(x, 0, kind, skip, 12);
            Due.due(30, "places to 12 on day 2, kind " + kind, x.whereFrom(0, 0), 2048 + 4096 + 8192 + 16384);
            Due.fill(x, 0, kind, skip, 1);
            Due.due(31, "callers, kind " + kind, x.whose(0, 0), 32);
            Due.fill(x, 0, kind, skip, skip);
            Due.due(29, "all of it skipped, sorts, kind " + kind, x.whatIs(0, 0, 0), 255);
            Due.due(30, "all of it skipped, places, kind " + kind, x.whereFrom(0, 0), 65535);
            Due.due(31, "all of it skipped, callers, kind " + kind, x.whose(0, 0), 63);
            Due.due(36, "all of it skipped, judged, kind " + kind, x.judge(0), -4);
        }
    }

    /** 1 more than the least number is not skipped, nor is the least number of another kind, nor the greatest. */
    private static void besideTheLeastNumber() {
        for (int kind = 0; kind <= 2; kind++) {
            for (int told : new int[] {-128, -32768, LEAST, -127, -32767, LEAST + 1, 127, 32767, -LEAST - 1, -1, -4}) {
                WhoeverNamesIt x = goat();
                Due.fill(x, 0, kind, told);
                boolean skipped = x.element(0, 0) == SKIPPED[kind];
                Due.due(29, "sorts, " + told + " kind " + kind, x.whatIs(0, 0, 0), skipped ? 255 : 0);
                Due.due(29, "figures, " + told + " kind " + kind, x.whatIs(0, 0, 1), skipped ? 1023 : 0);
                if (x.element(0, 0) != 0) {
                    Due.due(30, "places, " + told + " kind " + kind, x.whereFrom(0, 0), skipped ? 65535 : 0);
                    Due.due(31, "callers, " + told + " kind " + kind, x.whose(0, 0), skipped ? 63 : 0);
                    Due.due(36, "judged, " + told + " kind " + kind, x.judge(0), skipped ? -4 : 0);
                }
                Due.due(35, "forged, " + told + " kind " + kind, x.forged(0), 0);
            }
        }
    }

    /** "SORTS (bits) of it by which all of it is so; FIGURES (bits 0 .. 9)": one is another, the other as it is. */
    private static void onlyTheOneOfItsKind() {
        WhoeverNamesIt x = new WhoeverNamesIt();
        Due.gather(x, 15);
        Due.come(x, BULL, 2, 0);
        Due.fill(x, 0, 0, 0, 0, 0, 1);
        Due.due(29, "a bull of figure 2, a lamb of none", x.whatIs(0, 0, 0), 4);
        Due.due(29, "figure 2 of a bull alone", x.whatIs(0, 0, 1), 4);
        Due.fill(x, 0, 0, 0, 0, 0, 0, 1);
        Due.due(29, "a lamb of figure 2 on day 4", x.whatIs(0, 0, 0), 2);
        Due.due(29, "a bull of figure 3", x.whatIs(0, 0, 1), 8);
        Due.fill(x, 0, 0, 0, 0, 0, 0, 0, 0, 0, 0, 0, 0, 1);
        Due.due(29, "figure 9 of a bull on day 10", x.whatIs(0, 0, 1), 512);
        Due.fill(x, 0, 0, 0, 1);
        Due.due(29, "figure 0 of a bull on day 1", x.whatIs(0, 0, 1), 1);
        Due.due(29, "goat, mare, dog, ass on day 1", x.whatIs(0, 0, 0), 1 + 8 + 16 + 64);
        Due.due(3, "it is a bull still", x.beast(0, 0), BULL);
        Due.due(3, "of figure 2 still", x.beast(0, 1), 2);
    }

    /** "behind 0, 1, .. DAYS": the first element is how it is now, the hundredth how it is behind 99. */
    private static void behindNoDayAndMore() {
        WhoeverNamesIt x = goat();
        Due.fill(x, 0, 0, 5);
        Due.due(29, "sorts, now", x.whatIs(0, 0, 0), 255);
        Due.fill(x, 0, 0, 4);
        Due.due(29, "sorts, not now", x.whatIs(0, 0, 0), 0);
        Due.due(29, "figures, not now", x.whatIs(0, 0, 1), 0);
        Due.fill(x, 0, 0, 0);
        Due.due(31, "callers, now", x.whose(0, 0), 63);
        Due.fill(x, 0, 0, 1);
        Due.due(31, "callers, not now", x.whose(0, 0), 0);
        Due.fill(x, 0, 1, 200);
        Due.due(36, "means, now", x.judge(0), -4);
        Due.fill(x, 0, 1, 201);
        Due.due(36, "means, not now", x.judge(0), 0);
        int[] row = new int[100];
        java.util.Arrays.fill(row, -128);
        row[99] = 6;
        Due.fill(x, 0, 0, row);
        Due.due(29, "the hundredth: goat, bull, dog; lamb of 3 each fifth day", x.whatIs(0, 0, 0), 1 + 2 + 4 + 16);
        Due.due(30, "places, the hundredth", x.whereFrom(0, 0), 128 + 64 + 32);
        row[99] = 9;
        Due.fill(x, 0, 0, row);
        Due.due(31, "nobody's at 9, and those that starved: none in 99 days", x.whose(0, 0), 32);
        Due.due(40, "no day went", x.count(1), 0);
    }

    /** "a ROW tells likewise, behind 1, 2, .. DAYS". */
    private static void whereFromBehindOne() {
        WhoeverNamesIt x = new WhoeverNamesIt();
        Due.gather(x, 6);
        Due.come(x, LAMB, 0, 3);
        Due.fill(x, 0, 0, 3);
        Due.due(30, "it stays on day 1", x.whereFrom(0, 0), 8);
        Due.fill(x, 0, 0, 3, 4);
        Due.due(30, "it goes on day 2", x.whereFrom(0, 0), 8);
        Due.fill(x, 0, 0, 3, 4, 4, 5);
        Due.due(30, "and on day 4", x.whereFrom(0, 0), 8);
        Due.fill(x, 0, 0, 4, 4);
        Due.due(30, "it does not stay on day 2", x.whereFrom(0, 0), 0);
        Due.fill(x, 0, 0, SKIPPED[0], 6);
        Due.due(30, "three come to 6 on day 2", x.whereFrom(0, 0), 32 + 64 + 128);
        Due.due(30, "it is where it was", x.beast(0, 2), 3);
    }

    /** The day ahead of the first element is a day as any: on it just the NEED is eaten, and hunger is 2 more. */
    private static void whereFromFed() {
        WhoeverNamesIt x = new WhoeverNamesIt();
        Due.gather(x, 15);
        Due.come(x, BULL, 2, 0);
        x.calls(0, 0);
        x.means(0, 4);
        Due.fill(x, 0, 0, 0, 0);
        Due.due(30, "fed with 4, it stays on day 2", x.whereFrom(0, 0), 1);
        x.means(0, 3);
        Due.due(30, "not fed with 3, it does not stay", x.whereFrom(0, 0), 0);
        Due.fill(x, 0, 0, 0, 1);
        Due.due(30, "it goes", x.whereFrom(0, 0), 1);
    }

    /** "PLACES (bits) where it could be now": bits 0 and 15. */
    private static void whereFromEnds() {
        WhoeverNamesIt x = new WhoeverNamesIt();
        Due.gather(x, 0);
        Due.come(x, GOAT, 0, 3);
        Due.fill(x, 0, 0, 14);
        Due.due(30, "from 15", x.whereFrom(0, 0), 32768);
        Due.fill(x, 0, 0, 0);
        Due.due(30, "from 0 and 1", x.whereFrom(0, 0), 3);
        Due.fill(x, 0, 0, 15);
        Due.due(30, "15 from nowhere", x.whereFrom(0, 0), 0);
        Due.fill(x, 0, 0, 16);
        Due.due(30, "no such place", x.whereFrom(0, 0), 0);
        Due.gather(x, 15);
        Due.fill(x, 0, 0, 15);
        Due.due(30, "from 14 and 15", x.whereFrom(0, 0), 16384 + 32768);
    }

    /** "by whom (bits 0 .. 4; 5 nobody) it could be CALLED now so that all of it is so". */
    private static void whoseOfAll() {
        WhoeverNamesIt x = new WhoeverNamesIt();
        Due.come(x, LAMB, 9, 0);
        for (int p = 0; p < 5; p++) {
            x.means(p, p);
        }
        Due.fill(x, 0, 0, 0, 2);
        Due.due(31, "who has none", x.whose(0, 0), 1);
        Due.fill(x, 0, 0, 0, 0, 2);
        Due.due(31, "who has 1", x.whose(0, 0), 2);
        Due.fill(x, 0, 0, 0, 0, 0, 0, 0, 2);
        Due.due(31, "who has 4", x.whose(0, 0), 16);
        Due.fill(x, 0, 0, 0, 0, 0, 0, 0, 0);
        Due.due(31, "who has 5", x.whose(0, 0), 0);
        Due.fill(x, 0, 0, 0, 1, 2, 3, 4, 5, 6, 7, 8, 9, 9);
        Due.due(31, "nobody", x.whose(0, 0), 32);
        Due.fill(x, 0, 0, 0, 2, 4, 6, 8, 9, 9);
        Due.due(31, "dead behind 5: who has none", x.whose(0, 0), 1);
        Due.due(31, "called by nobody still", x.beast(0, 4), -4);
    }

    /** Nobody's may be called on the way. */
    private static void whoseOfNobody() {
        WhoeverNamesIt x = new WhoeverNamesIt();
        Due.gather(x, 6);
        Due.come(x, GOAT, 9, 4);
        x.calls(0, 0);
        x.means(0, 0);
        x.tongue(1, POET);
        Due.fill(x, 0, 0, 0, 1, 0, 0);
        Due.due(31, "nobody's on day 1, the poet's on day 2", x.whose(0, 0), 32);
        Due.due(31, "called still", x.beast(0, 4), 0);
    }

    /** "-1, -11, -12", "-1, -3 DEAD, -11, -12". */
    private static void refusalsInTheirOrder() {
        WhoeverNamesIt x = new WhoeverNamesIt();
        int gone = Due.dead(x, 0, GOAT, 5);
        int goat = Due.come(x, GOAT, 1, 5);
        x.keep(1, 1, WHELP, 1);
        Due.fill(x, 2, 0, 1);
        for (int d : new int[] {-1, 8, LEAST, -LEAST - 1}) {
            Due.due(29, "whatIs, shelf " + d, x.whatIs(d, goat, 0), -1);
            Due.due(30, "whereFrom, shelf " + d, x.whereFrom(d, goat), -1);
            Due.due(31, "whose, shelf " + d, x.whose(d, goat), -1);
            Due.due(30, "whereFrom, shelf " + d + ", one dead", x.whereFrom(d, gone), -1);
            Due.due(31, "whose, shelf " + d + ", one dead", x.whose(d, gone), -1);
            Due.due(35, "forged, shelf " + d, x.forged(d), -1);
            Due.due(36, "judge, shelf " + d, x.judge(d), -1);
        }
        for (int d = 0; d <= 2; d++) {
            Due.due(29, "whatIs, no such beast, shelf " + d, x.whatIs(d, 2, 0), -1);
            Due.due(29, "whatIs, what 2, shelf " + d, x.whatIs(d, goat, 2), -1);
            Due.due(30, "whereFrom, no such beast, shelf " + d, x.whereFrom(d, 2), -1);
            Due.due(31, "whose, no such beast, shelf " + d, x.whose(d, 2), -1);
            Due.due(30, "whereFrom, one dead, shelf " + d, x.whereFrom(d, gone), -3);
            Due.due(31, "whose, one dead, shelf " + d, x.whose(d, gone), -3);
        }
        int[] due = {-11, -12};
        for (int d = 0; d <= 1; d++) {
            Due.due(29, "whatIs, shelf " + d, x.whatIs(d, goat, 1), due[d]);
            Due.due(29, "whatIs, one dead, shelf " + d, x.whatIs(d, gone, 0), due[d]);
            Due.due(30, "whereFrom, shelf " + d, x.whereFrom(d, goat), due[d]);
            Due.due(31, "whose, shelf " + d, x.whose(d, goat), due[d]);
            Due.due(35, "forged, shelf " + d, x.forged(d), due[d]);
            Due.due(36, "judge, shelf " + d, x.judge(d), due[d]);
        }
    }

    /** "what is taken from a SHELF, stay there". */
    private static void rowsStay() {
        WhoeverNamesIt x = goat();
        Due.fill(x, 4, 2, 5, LEAST, 7);
        x.whatIs(4, 0, 0);
        x.whatIs(4, 0, 1);
        x.whereFrom(4, 0);
        x.whose(4, 0);
        x.forged(4);
        x.judge(4);
        Due.due(29, "the first", x.element(4, 0), 5);
        Due.due(29, "the second", x.element(4, 1), LEAST);
        Due.due(29, "the third", x.element(4, 2), 7);
        Due.due(29, "no fourth", Due.thrown(x, 4, 3), 2);
    }

    /** "the first pair .. by which neither has more by another choice alone". */
    private static void firstPair() {
        WhoeverNamesIt x = new WhoeverNamesIt();
        Due.due(32, "nobody has more by anything: both silent", x.two(0, 4, 30), 0);
        Due.gather(x, 6);
        Due.come(x, GOAT, 1, 6);
        x.tongue(2, POET);
        x.tongue(3, POET);
        Due.due(32, "2 speaks first: 3 has nothing of it, the first pair is taken", x.two(2, 3, 1), 10);
        Due.due(32, "the other way round", x.two(3, 2, 1), 1);
        x.tongue(3, 0);
        Due.due(32, "one without tongue first", x.two(3, 2, 1), 1);
        Due.come(x, BULL, 9, 6);
        x.tongue(2, 2);
        x.tongue(3, 2);
        Due.due(32, "two proud ones: 2 has the bull, nothing is left for 3", x.two(2, 3, 1), 10);
        Due.due(32, "one twice", x.two(2, 2, 1), -1);
        Due.due(32, "one twice, none such", x.two(5, 5, 1), -1);
        Due.due(32, "one twice and n 0", x.two(2, 2, 0), -1);
    }

    /** "less 5 for each GRIEF more": who speaks has a goat, 1 a day, and dogs that are dead on the day of their call. */
    private static void eachGriefFive() {
        for (int dogs = 0; dogs <= 2; dogs++) {
            for (int days = 1; days <= 12; days++) {
                WhoeverNamesIt x = new WhoeverNamesIt();
                for (int i = 0; i < dogs; i++) {
                    Due.come(x, DOG, 9, 6);
                }
                Due.gather(x, 6);
                x.days(7);
                Due.come(x, GOAT, 9, 6);
                x.tongue(1, POET);
                x.means(1, 2);
                Due.due(32, dogs + " dead, " + days + " days", x.two(1, 3, days), days > 5 * dogs ? 10 : 0);
            }
        }
    }

    private static void bothInTwo() {
        WhoeverNamesIt x = new WhoeverNamesIt();
        Due.come(x, GOAT, 1, 3);
        Due.come(x, GOAT, 1, 6);
        x.tongue(1, POET);
        x.tongue(2, POET);
        Due.due(32, "each has his own", x.two(1, 2, 1), 11);
        Due.due(32, "each has his own, the other way round", x.two(2, 1, 30), 11);
        x.means(1, 1);
        Due.due(32, "1 does not feed a goat", x.two(1, 2, 4), 1);
        x.means(1, 999);
        Due.due(32, "999 is the most already", x.two(1, 2, 1), 1);
    }

    /** "NEED of all is 2 more (that DAY)": of those ahead of it too. */
    private static void snowOfAll() {
        WhoeverNamesIt x = new WhoeverNamesIt();
        Due.come(x, LAMB, 9, 0);
        Due.come(x, LAMB, 9, 0);
        x.days(8);
        x.calls(0, 1);
        x.means(0, 3);
        Due.due(33, "3 feed one in snow", x.snow(1, 1, 2, 1), 1);
        x.means(0, 2);
        Due.due(33, "2 do not", x.snow(1, 1, 2, 1), 2);
        x.calls(0, 0);
        x.means(0, 5);
        Due.due(33, "5 feed the first in snow", x.snow(0, 1, 2, 1), 1);
        Due.due(33, "and not the second", x.snow(1, 1, 2, 1), 2);
        x.means(0, 6);
        Due.due(33, "6 feed the second", x.snow(1, 1, 2, 1), 1);
        x.means(0, 7);
        Due.due(33, "the first of two days feeds both, above", x.snow(1, 2, 2, 0), 1);
        Due.due(33, "the first of two days feeds both, below", x.snow(1, 2, 2, 1), 1);
    }

    /** "how likely a BEAST is ALIVE behind these: a fraction in least terms". */
    private static void snowInLeastTerms() {
        WhoeverNamesIt x = new WhoeverNamesIt();
        Due.come(x, LAMB, 9, 0);
        x.days(8);
        x.calls(0, 0);
        x.means(0, 1);
        for (int t = 2; t <= 20; t++) {
            Due.due(33, "a day, above, t " + t, x.snow(0, 1, t, 0), t - 1);
            Due.due(33, "a day, below, t " + t, x.snow(0, 1, t, 1), t);
            Due.due(33, "five days, above, t " + t, x.snow(0, 5, t, 0), t - 1);
            Due.due(33, "five days, below, t " + t, x.snow(0, 5, t, 1), t);
            x.means(0, 0);
            Due.due(33, "never, above, t " + t, x.snow(0, 1, t, 0), 0);
            Due.due(33, "never, below, t " + t, x.snow(0, 1, t, 1), 1);
            x.means(0, 1);
        }
        x.days(1);
        x.means(0, 0);
        x.days(5);
        Due.due(33, "one dead, above", x.snow(0, 0, 2, 0), 0);
        Due.due(33, "one dead, below", x.snow(0, 0, 2, 1), 1);
        Due.due(33, "one dead, 7 days of 20, above", x.snow(0, 7, 20, 0), 0);
        Due.due(33, "one dead, 7 days of 20, below", x.snow(0, 7, 20, 1), 1);
    }

    /**
     * "in each of n DAYS (0 .. 7), by itself, .. with odds 1 in t (2 .. 20)". A lamb of hunger 8, and 2 of means, that
     * feed it on two days without snow: it lives for 7 days if the first has none, the second has, and one of the next
     * four has none again. With 1 of means it lives for 5 days if the first has none, and never for 6.
     */
    private static void snowOddsAtTheEnds() {
        WhoeverNamesIt x = new WhoeverNamesIt();
        Due.come(x, LAMB, 9, 0);
        x.days(8);
        x.calls(0, 0);
        x.means(0, 2);
        Due.due(33, "7 days, 1 in 2, above", x.snow(0, 7, 2, 0), 15);
        Due.due(33, "7 days, 1 in 2, below", x.snow(0, 7, 2, 1), 64);
        Due.due(33, "7 days, 1 in 20, above", x.snow(0, 7, 20, 0), 19 * 159999);
        Due.due(33, "7 days, 1 in 20, below", x.snow(0, 7, 20, 1), 64000000);
        x.means(0, 1);
        Due.due(33, "5 days, 1 in 20, above", x.snow(0, 5, 20, 0), 19);
        Due.due(33, "5 days, 1 in 20, below", x.snow(0, 5, 20, 1), 20);
        Due.due(33, "6 days, above", x.snow(0, 6, 20, 0), 0);
        Due.due(33, "6 days, below", x.snow(0, 6, 20, 1), 1);
        x.means(0, 9);
        Due.due(33, "9 feed it on three days of snow: alive behind 7, above", x.snow(0, 7, 2, 0), 1);
        Due.due(33, "9 feed it on three days of snow: alive behind 7, below", x.snow(0, 7, 2, 1), 1);
    }

    /** "Refused as told: -1" of longs. */
    private static void snowRefused() {
        WhoeverNamesIt x = goat();
        Due.due(33, "part 2", x.snow(0, 1, 2, 2), REFUSED);
        Due.due(33, "part -1", x.snow(0, 1, 2, -1), REFUSED);
        Due.due(33, "t 1", x.snow(0, 1, 1, 0), REFUSED);
        Due.due(33, "t 0", x.snow(0, 1, 0, 0), REFUSED);
        Due.due(33, "t 21", x.snow(0, 1, 21, 0), REFUSED);
        Due.due(33, "t 2", x.snow(0, 1, 2, 0), 1);
        Due.due(33, "t 20", x.snow(0, 1, 20, 0), 1);
        Due.due(33, "n 8", x.snow(0, 8, 2, 0), REFUSED);
        Due.due(33, "all of it", x.snow(-1, -1, -1, -1), REFUSED);
        Due.due(34, "both", x.share(5, 2), REFUSED);
    }

    /** "(0 by 1, if these are 0)". */
    private static void shareOfNothing() {
        WhoeverNamesIt x = new WhoeverNamesIt();
        for (int p = 0; p < 5; p++) {
            x.means(p, 0);
        }
        for (int p = 0; p < 5; p++) {
            Due.due(34, "above, " + p, x.share(p, 0), 0);
            Due.due(34, "below, " + p, x.share(p, 1), 1);
        }
        x.means(4, 1);
        Due.due(34, "all of 1, above", x.share(4, 0), 1);
        Due.due(34, "all of 1, below", x.share(4, 1), 1);
        Due.due(34, "nothing of 1, above", x.share(0, 0), 0);
        Due.due(34, "nothing of 1, below", x.share(0, 1), 1);
    }

    /** "a fraction in least terms". */
    private static void shareInLeastTerms() {
        WhoeverNamesIt x = new WhoeverNamesIt();
        for (int p = 0; p < 5; p++) {
            x.means(p, 999);
        }
        Due.due(34, "999 of 4995, above", x.share(2, 0), 1);
        Due.due(34, "999 of 4995, below", x.share(2, 1), 5);
        x.means(2, 998);
        Due.due(34, "998 of 4994, above", x.share(2, 0), 499);
        Due.due(34, "998 of 4994, below", x.share(2, 1), 2497);
        x.means(0, 0);
        x.means(1, 0);
        x.means(3, 6);
        x.means(4, 9);
        x.means(2, 0);
        Due.due(34, "6 of 15, above", x.share(3, 0), 2);
        Due.due(34, "6 of 15, below", x.share(3, 1), 5);
        Due.due(34, "9 of 15, above", x.share(4, 0), 3);
        Due.due(34, "9 of 15, below", x.share(4, 1), 5);
    }

    /** "the first that is not so (no such BEAST, too); -4". */
    private static void forgedNoSuchBeast() {
        for (int beasts = 0; beasts <= 9; beasts++) {
            WhoeverNamesIt x = new WhoeverNamesIt();
            for (int b = 0; b < beasts; b++) {
                Due.come(x, GOAT, 1, b);
            }
            int[] row = new int[100];
            java.util.Arrays.fill(row, 5);
            Due.fill(x, 0, 1, row);
            Due.due(35, "100 told of " + beasts, x.forged(0), beasts);
            Due.fill(x, 0, 1, java.util.Arrays.copyOf(row, beasts));
            Due.due(35, "just as many told of " + beasts, x.forged(0), -4);
        }
    }

    private static void forgedSkipsNothing() {
        for (int kind = 0; kind <= 2; kind++) {
            WhoeverNamesIt x = goat();
            Due.come(x, GOAT, 1, 1);
            x.calls(4, 1);
            Due.fill(x, 0, kind, 5, 4);
            Due.due(35, "so", x.forged(0), -4);
            Due.fill(x, 0, kind, SKIPPED[kind], 4);
            Due.due(35, "the least number is not so, kind " + kind, x.forged(0), 0);
            Due.fill(x, 0, kind, 5, 5);
            Due.due(35, "nobody in place of 4", x.forged(0), 1);
            Due.fill(x, 0, kind, -4, 4);
            Due.due(35, "-4 in place of 5", x.forged(0), 0);
            Due.fill(x, 0, kind, 6, 3);
            Due.due(35, "the first of two", x.forged(0), 0);
        }
    }

    /** "the first that is not so (skipped likewise); -4". */
    private static void judgedSkips() {
        WhoeverNamesIt x = goat();
        x.calls(0, 0);
        for (int kind = 1; kind <= 2; kind++) {
            int skip = SKIPPED[kind];
            Due.fill(x, 0, kind, 200, 201, 202);
            Due.due(36, "so", x.judge(0), -4);
            Due.fill(x, 0, kind, skip, 201, skip);
            Due.due(36, "so, with two skipped", x.judge(0), -4);
            Due.fill(x, 0, kind, skip, skip, 203);
            Due.due(36, "not so on day 2", x.judge(0), 2);
            Due.fill(x, 0, kind, 200, skip + 1, 203);
            Due.due(36, "the first of two", x.judge(0), 1);
        }
        for (int p = 0; p < 5; p++) {
            x.means(p, p == 0 ? 125 : 0);
        }
        Due.fill(x, 0, 0, 125, 126, 127, 128, 129);
        Due.due(36, "128 in bytes is the least, 129 is -127", x.judge(0), 4);
    }

    /** "MEANS of all PEOPLE together". */
    private static void judgedByAll() {
        for (int p = 0; p < 5; p++) {
            WhoeverNamesIt x = new WhoeverNamesIt();
            x.means(p, 999);
            Due.fill(x, 0, 1, 1159);
            Due.due(36, "the most of " + p, x.judge(0), -4);
            Due.due(40, "means of all", x.count(4), 1159);
            Due.due(34, "below, of " + p, x.share(p, 1), 1159);
        }
        WhoeverNamesIt x = new WhoeverNamesIt();
        for (int p = 0; p < 5; p++) {
            x.means(p, 999);
        }
        Due.fill(x, 0, 2, 4995);
        Due.due(36, "the most of all", x.judge(0), -4);
        Due.due(40, "means of all", x.count(4), 4995);
    }

    /**
     * "n (1 .. 20), each from now": from z 1 the draws below 16 are 6, 14, 1, 11, 11, 11, 2, 11, 4, 6, 13, 15, 12, 12,
     * 1, 7, 1, 15, 1, 14. A lamb that goes on day 11 alone comes to the poet from his place and from the two beside it.
     */
    private static void mountainsByHand() {
        int[] draws = {6, 14, 1, 11, 11, 11, 2, 11, 4, 6, 13, 15, 12, 12, 1, 7, 1, 15, 1, 14};
        for (int place = 0; place <= 15; place++) {
            WhoeverNamesIt x = new WhoeverNamesIt();
            Due.gather(x, place);
            Due.come(x, LAMB, 9, 0);
            x.tongue(1, POET);
            int called = 0;
            for (int n = 1; n <= 20; n++) {
                called += Math.abs(draws[n - 1] - place) <= 1 ? 1 : 0;
                Due.due(37, n + " mountains, the poet at " + place, x.mountains(n, 1, 0), called);
            }
            Due.due(37, "nobody is dead", x.mountains(20, 1, 1), 0);
        }
    }

    /**
     * "z becomes z times 1103515245 plus 12345 (an int); (z without its sign's bit over 65536, cut) modulo n": here the
     * draws are made with numbers that do not wrap around. From each of these seeds some z is below 0.
     */
    private static void seedWrapsAround() {
        int[] seeds = {1, 2, -1, 0, Integer.MAX_VALUE, LEAST, 20261118};
        for (int z : seeds) {
            java.math.BigInteger seed = java.math.BigInteger.valueOf(z);
            int[] draws = new int[20];
            for (int i = 0; i < 20; i++) {
                seed = seed.multiply(java.math.BigInteger.valueOf(1103515245)).add(java.math.BigInteger.valueOf(12345));
                draws[i] = seed.mod(java.math.BigInteger.TWO.pow(31)).divide(java.math.BigInteger.valueOf(65536))
                    .intValueExact() % 16;
            }
            for (int place = 0; place <= 15; place += 3) {
                WhoeverNamesIt x = new WhoeverNamesIt();
                Due.gather(x, place);
                Due.come(x, LAMB, 9, 0);
                x.tongue(1, POET);
                int called = 0;
                for (int n = 1; n <= 20; n++) {
                    called += Math.abs(draws[n - 1] - place) <= 1 ? 1 : 0;
                    Due.due(37, n + " mountains from " + z + ", the poet at " + place, x.mountains(n, z, 0), called);
                }
            }
        }
    }

    /** "GRIEF of all more, together": of each of the five, and only what is more. */
    private static void mountainsGrief() {
        for (int p = 0; p < 5; p++) {
            WhoeverNamesIt x = new WhoeverNamesIt();
            Due.dead(x, p, LAMB, 0);
            Due.come(x, LAMB, 9, 0);
            x.calls(p, 1);
            x.means(p, 0);
            Due.due(37, "one of " + p + " on each of 20", x.mountains(20, 7, 1), 20);
            Due.due(37, "none is called then", x.mountains(20, 7, 0), 0);
            x.means(p, 7);
            Due.due(37, "7 days fed: dead behind 12", x.mountains(20, 7, 1), 20);
            x.means(p, 8);
            Due.due(37, "8 days fed: called behind 12", x.mountains(20, 7, 0), 20);
            Due.due(37, "no grief", x.mountains(20, 7, 1), 0);
            Due.due(4, "grief as it was", x.person(p, 3), 1);
        }
    }

    /** "PLACES of BEASTS ALIVE, by numbers": one that is dead draws nothing; and none of it comes to pass. */
    private static void mountainsFromNow() {
        WhoeverNamesIt x = new WhoeverNamesIt();
        Due.dead(x, 0, LAMB, 9);
        Due.gather(x, 6);
        Due.come(x, LAMB, 9, 9);
        Due.come(x, LAMB, 9, 9);
        x.tongue(2, POET);
        Due.due(37, "6 for the first alive, 14 for the second", x.mountains(1, 1, 0), 1);
        Due.gather(x, 14);
        Due.due(37, "14 for the second", x.mountains(1, 1, 0), 1);
        Due.due(37, "1 and 11 then", x.mountains(2, 1, 0), 1);
        Due.gather(x, 11);
        Due.due(37, "11 for the second of the second", x.mountains(2, 1, 0), 1);
        Due.due(37, "11 and 11 of the third", x.mountains(3, 1, 0), 3);
        Due.due(40, "day", x.count(1), 5);
        Due.due(3, "place", x.beast(1, 2), 9);
        Due.due(40, "called", x.count(3), 0);
    }
}
