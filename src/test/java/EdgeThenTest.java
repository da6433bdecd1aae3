/**
 * ==== II., the sentences that name an edge: numbers of DAYS, MEANS, parts at the ends of their ranges and beyond; ties;
 * what is just enough and what lacks 1. Above each method its sentence.
 */
public final class EdgeThenTest {
    private static final int GOAT = 0;
    private static final int LAMB = 1;
    private static final int BULL = 2;
    private static final int MARE = 3;
    private static final int DOG = 4;
    private static final int WOLF = 5;
    private static final int WHELP = 7;

    private static final int KIND = 1;
    private static final int POET = 3;

    private static final int LEAST = Integer.MIN_VALUE;
    private static final int GREATEST = Integer.MAX_VALUE;

    public static void main(String[] args) {
        rangesOfDays();
        rangesOfWhat();
        beyondTheLastDay();
        behindNoDay();
        namedBehindADay();
        namedByRiches();
        firstOfThoseAlive();
        lessThanAllTheNeed();
        stillForTwenty();
        nextDay();
        moreThanAsItIs();
        nameTheLeast();
        coverAll();
        coverBehindTwelve();
        letGoOfSeveral();
        letGoOfThoseHeStillCalls();
        standOfSeveral();
        leastUpToSixty();
        leastOfThoseHeCalls();
        exchangeMoreThanElse();
        exchangeTheFirst();
        teachOfSeveral();
        countsOfNone();
        hungriestOfSeveral();
        pairsOfTheLiving();
        Due.end("EdgeThenTest");
    }

    /** Ranges of n (and v) with both ends: "0 .. 60", "0 .. 30", "0 .. 20", "0 .. 99", "1 .. 30", "0 .. 7", "1 .. 20". */
    private static void rangesOfDays() {
        WhoeverNamesIt x = new WhoeverNamesIt();
        Due.come(x, GOAT, 1, 0);
        for (int n : new int[] {LEAST, -1, 0, 1, 7, 8, 20, 21, 30, 31, 60, 61, 99, 100, GREATEST}) {
            Due.due(13, "beastThen, n " + n, refused(x.beastThen(0, n, 0)), beyond(n, 0, 60));
            Due.due(14, "personThen, n " + n, refused(x.personThen(0, n, 0)), beyond(n, 0, 60));
            Due.due(20, "name, n " + n, refused(x.name(0, n, 0)), beyond(n, 0, 30));
            Due.due(21, "cover, v " + n, refused(x.cover(0, n)), beyond(n, 0, 99));
            Due.due(22, "letGo, n " + n, refused(x.letGo(0, n)), beyond(n, 0, 20));
            Due.due(23, "stand, n " + n, refused(x.stand(0, n, 0)), beyond(n, 0, 20));
            Due.due(24, "least, n " + n, refused(x.least(0, n)), beyond(n, 0, 20));
            Due.due(25, "exchange, n " + n, refused(x.exchange(n)), beyond(n, 0, 20));
            Due.due(26, "teach, n " + n, refused(x.teach(0, n, 0)), beyond(n, 0, 30));
            Due.due(32, "two, n " + n, refused(x.two(0, 1, n)), beyond(n, 1, 30));
            Due.due(33, "snow, n " + n, x.snow(0, n, 2, 1) == 1000000001L ? 1 : 0, beyond(n, 0, 7));
            Due.due(33, "snow, t " + n, x.snow(0, 1, n, 1) == 1000000001L ? 1 : 0, beyond(n, 2, 20));
            Due.due(37, "mountains, n " + n, refused(x.mountains(n, 1, 0)), beyond(n, 1, 20));
        }
        Due.due(12, "no day went", x.count(1), 0);
        for (int n : new int[] {LEAST, -1, 0, 61, 62, GREATEST}) {
            Due.due(12, "days(" + n + ")", x.days(n), -1);
        }
        Due.due(12, "days(1)", x.days(1), 1);
        Due.due(12, "days(60)", x.days(60), 1);
        Due.due(12, "day", x.count(1), 61);
    }

    private static int refused(int answer) {
        return answer == -1 ? 1 : 0;
    }

    private static int beyond(int n, int low, int high) {
        return n < low || n > high ? 1 : 0;
    }

    /** "(what 0 ..)": each what at its ends and beyond. */
    private static void rangesOfWhat() {
        WhoeverNamesIt x = new WhoeverNamesIt();
        Due.come(x, GOAT, 1, 0);
        Due.fill(x, 0, 0, 0);
        for (int what : new int[] {LEAST, -1, 0, 1, 2, 3, 4, 5, 6, 7, 8, 9, GREATEST}) {
            Due.due(3, "beast, what " + what, refused(x.beast(0, what)), beyond(what, 0, 8));
            Due.due(4, "person, what " + what, refused(x.person(0, what)), beyond(what, 0, 6));
            Due.due(13, "beastThen, what " + what, refused(x.beastThen(0, 1, what)), beyond(what, 0, 2));
            Due.due(14, "personThen, what " + what, refused(x.personThen(0, 1, what)), beyond(what, 0, 2));
            Due.due(15, "named, what " + what, refused(x.named(0, what)), beyond(what, 0, 1));
            Due.due(19, "next, what " + what, refused(x.next(what)), beyond(what, 0, 2));
            Due.due(20, "name, what " + what, refused(x.name(0, 1, what)), beyond(what, 0, 1));
            Due.due(23, "stand, what " + what, refused(x.stand(0, 1, what)), beyond(what, 0, 1));
            Due.due(26, "teach, what " + what, refused(x.teach(0, 1, what)), beyond(what, 0, 1));
            Due.due(27, "of, what " + what, refused(x.of(what)), beyond(what, 0, 4));
            Due.due(29, "whatIs, what " + what, refused(x.whatIs(0, 0, what)), beyond(what, 0, 1));
            Due.due(33, "snow, part " + what, x.snow(0, 1, 2, what) == 1000000001L ? 1 : 0, beyond(what, 0, 1));
            Due.due(34, "share, part " + what, x.share(0, what) == 1000000001L ? 1 : 0, beyond(what, 0, 1));
            Due.due(37, "mountains, what " + what, refused(x.mountains(1, 1, what)), beyond(what, 0, 1));
            Due.due(40, "count, what " + what, refused(x.count(what)), beyond(what, 0, 4));
        }
    }

    /** "In mind, n DAYS on (0 .. 60) (DAY may pass 999 there)": whatever is asked, on the last day as ever. */
    private static void beyondTheLastDay() {
        WhoeverNamesIt x = new WhoeverNamesIt();
        for (int i = 0; i < 16; i++) {
            x.days(60);
        }
        x.days(39);
        Due.come(x, LAMB, 9, 3);
        Due.come(x, GOAT, 1, 1);
        x.calls(2, 0);
        x.means(2, 55);
        x.tongue(0, POET);
        Due.due(13, "beastThen", x.beastThen(1, 60, 0), 0);
        Due.due(14, "personThen", x.personThen(2, 60, 1), 1);
        Due.due(15, "named", x.named(1, 0), 1);
        Due.due(16, "dies", x.dies(0), 60);
        Due.due(16, "first", x.dies(-1), 0);
        Due.due(17, "ruined", x.ruined(2), 55);
        Due.due(18, "still", x.still(), 1);
        Due.due(19, "next", x.next(0), 2);
        Due.due(20, "name", x.name(1, 30, 1), 70);
        Due.due(24, "least", x.least(2, 20), 16);
        Due.due(33, "snow", x.snow(0, 7, 20, 0), 1);
        Due.due(37, "mountains", x.mountains(20, 1, 1), 0);
        Due.due(12, "days", x.days(1), -3);
        Due.due(40, "day", x.count(1), 999);
    }

    /** Behind 0 DAYS all is as now. */
    private static void behindNoDay() {
        WhoeverNamesIt x = new WhoeverNamesIt();
        Due.come(x, GOAT, 1, 0);
        x.days(4);
        x.calls(1, 0);
        x.stands(0, 9);
        Due.due(13, "place", x.beastThen(0, 0, 0), 9);
        Due.due(13, "hunger", x.beastThen(0, 0, 1), 4);
        Due.due(13, "caller", x.beastThen(0, 0, 2), 1);
        Due.due(14, "means", x.personThen(1, 0, 0), 40);
        Due.due(14, "grief", x.personThen(1, 0, 1), 0);
        Due.due(14, "beasts", x.personThen(1, 0, 2), 1);
        Due.due(20, "name", x.name(2, 0, 0), -4);
        Due.due(22, "let go", x.letGo(1, 0), 0);
        Due.due(25, "exchange", x.exchange(0), -4);
        Due.due(33, "snow, above", x.snow(0, 0, 2, 0), 1);
        Due.due(33, "snow, below", x.snow(0, 0, 2, 1), 1);
    }

    /** "NAMED: behind how many DAYS (0 .. 60) one is CALLED by somebody first": who is dead on the day of its call is not. */
    private static void namedBehindADay() {
        WhoeverNamesIt x = new WhoeverNamesIt();
        Due.gather(x, 6);
        Due.come(x, LAMB, 9, 6);
        x.days(6);
        x.tongue(2, POET);
        x.means(2, 0);
        Due.due(15, "hunger 6: called behind 1", x.named(0, 0), 1);
        Due.due(15, "by 2", x.named(0, 1), 2);
        Due.due(16, "dead behind 2", x.dies(0), 2);
        x.tongue(2, 0);
        x.days(1);
        x.tongue(2, POET);
        Due.due(15, "hunger 7: dead on the day of its call", x.named(0, 0), -4);
        Due.due(15, "by nobody behind it", x.named(0, 1), -4);
        Due.due(16, "dead behind 1", x.dies(0), 1);
        Due.due(19, "not called by somebody then", x.next(0), 0);
        Due.due(19, "dead then", x.next(1), 1);
    }

    /** What is fed in mind is fed just its NEED: 0 is as rich as 1 behind 3 days, so the mare turns back on day 4. */
    private static void namedByRiches() {
        WhoeverNamesIt x = new WhoeverNamesIt();
        Due.gather(x, 15);
        for (int p = 2; p < 5; p++) {
            x.means(p, 0);
        }
        Due.come(x, GOAT, 1, 0);
        Due.come(x, MARE, 9, 1);
        x.calls(0, 0);
        x.walks(0, 0);
        x.tongue(0, POET);
        x.means(0, 2);
        x.means(1, 5);
        Due.due(15, "1 to 4 in 3 days, back in 4", x.named(1, 0), 7);
        Due.due(15, "by 0", x.named(1, 1), 0);
        Due.due(13, "where she turns", x.beastThen(1, 3, 0), 4);
    }

    /** "FIRST: who of those ALIVE now, of several the least". */
    private static void firstOfThoseAlive() {
        WhoeverNamesIt x = new WhoeverNamesIt();
        Due.due(16, "of none", x.dies(-1), -4);
        Due.dead(x, 0, LAMB, 0);
        Due.due(16, "of one dead", x.dies(-1), -4);
        Due.due(16, "one dead itself", x.dies(0), 0);
        for (int b = 1; b <= 3; b++) {
            Due.come(x, LAMB, 9, 0);
        }
        Due.due(16, "of those of nobody", x.dies(-1), -4);
        x.means(4, 0);
        x.calls(4, 3);
        Due.due(16, "one alone", x.dies(-1), 3);
        x.calls(4, 2);
        Due.due(16, "of two the least", x.dies(-1), 2);
        x.means(4, 1);
        Due.due(16, "the other first", x.dies(-1), 3);
    }

    /** "MEANS of one are less than all the NEED of those he CALLS". */
    private static void lessThanAllTheNeed() {
        WhoeverNamesIt x = new WhoeverNamesIt();
        x.means(0, 0);
        Due.due(17, "0 of none is not less", x.ruined(0), -4);
        Due.come(x, WOLF, 1, 0);
        Due.come(x, WHELP, 1, 0);
        x.calls(0, 0);
        x.calls(0, 1);
        x.means(0, 12);
        Due.due(17, "12 of 13", x.ruined(0), 0);
        x.means(0, 13);
        Due.due(17, "13 of 13", x.ruined(0), 1);
        x.means(0, 26);
        Due.due(17, "26 of 13", x.ruined(0), 2);
        x.means(0, 25);
        Due.due(17, "25 of 13", x.ruined(0), 1);
        Due.due(17, "another", x.ruined(1), -4);
        Due.due(17, "13 a day of 793: behind 61", ruinedBehind(x, 793), -4);
        Due.due(17, "13 a day of 792: behind 60", ruinedBehind(x, 792), 60);
    }

    private static int ruinedBehind(WhoeverNamesIt x, int means) {
        x.means(0, means);
        return x.ruined(0);
    }

    /** "the least n (0 .. 40) with PLACES of all BEASTS as behind n DAYS behind n and 1 .. 20 more, too; -4". */
    private static void stillForTwenty() {
        for (int figure = 0; figure <= 9; figure++) {
            WhoeverNamesIt x = new WhoeverNamesIt();
            Due.gather(x, 15);
            Due.come(x, LAMB, figure, 0);
            Due.due(18, "a lamb that goes 15 times, figure " + figure, x.still(), figure == 0 ? 30 : -4);
            x.stands(0, 14);
            Due.due(18, "a lamb that goes once, figure " + figure, x.still(), figure + 2);
        }
        WhoeverNamesIt x = new WhoeverNamesIt();
        Due.gather(x, 15);
        Due.come(x, GOAT, 0, 0);
        Due.due(18, "a goat of 15 days", x.still(), 15);
        Due.come(x, GOAT, 0, 0);
        x.days(9);
        Due.due(18, "6 days are left", x.still(), 6);
        x.days(6);
        Due.due(18, "none is left", x.still(), 0);
        Due.due(18, "who goes there and back is not still", backAndForth().still(), -4);
    }

    /** A wolf at 5 flees from 6 down to 4, and from 3 up to 5 again. */
    private static WhoeverNamesIt backAndForth() {
        WhoeverNamesIt x = new WhoeverNamesIt();
        Due.gather(x, 6);
        Due.come(x, WOLF, 1, 5);
        x.walks(1, 6);
        x.walks(0, 14);
        x.walks(2, 14);
        x.walks(3, 14);
        x.walks(4, 3);
        return x;
    }

    /** "CALLED by nobody now and by somebody behind the next DAY; ALIVE now and DEAD then; not at the same PLACE then". */
    private static void nextDay() {
        WhoeverNamesIt x = new WhoeverNamesIt();
        for (int what = 0; what <= 2; what++) {
            Due.due(19, "of none, what " + what, x.next(what), 0);
        }
        Due.gather(x, 6);
        for (int b = 0; b < 9; b++) {
            Due.come(x, LAMB, 0, 6);
        }
        x.days(1);
        for (int b = 0; b < 9; b++) {
            x.stands(b, b);
        }
        Due.due(19, "all but the one at 6 go on day 2", x.next(2), 511 - 64);
        x.tongue(3, POET);
        Due.due(19, "who is at 6 then", x.next(0), 32 + 64 + 128);
        x.calls(1, 6);
        Due.due(19, "one called already", x.next(0), 32 + 128);
        Due.due(19, "nobody is dead then", x.next(1), 0);
    }

    /** "lets him have most MEANS behind n DAYS (0 .. 30), more than as it is". */
    private static void moreThanAsItIs() {
        WhoeverNamesIt x = new WhoeverNamesIt();
        Due.come(x, BULL, 2, 0);
        Due.due(20, "need 4 and work 4: not more", x.name(0, 30, 0), -4);
        Due.due(20, "its means", x.name(0, 30, 1), -4);
        Due.come(x, BULL, 3, 0);
        Due.due(20, "need 5 and work 6: more", x.name(0, 30, 0), 1);
        Due.due(20, "30 more", x.name(0, 30, 1), 70);
        x.means(0, 999);
        Due.due(20, "999 is the most already", x.name(0, 30, 0), -4);
        x.means(0, 998);
        Due.due(20, "1 more", x.name(0, 30, 0), 1);
        Due.due(20, "means of 999", x.name(0, 30, 1), 999);
        x.means(0, 4);
        Due.due(20, "4 do not feed it", x.name(0, 30, 0), -4);
        x.means(0, 5);
        Due.due(20, "5 do", x.name(0, 1, 1), 6);
        Due.due(20, "of no beasts", new WhoeverNamesIt().name(0, 30, 0), -4);
    }

    /** "of several the least": and one CALLED by another, or DEAD, is none of them. */
    private static void nameTheLeast() {
        WhoeverNamesIt x = new WhoeverNamesIt();
        Due.dead(x, 4, BULL, 0);
        Due.come(x, BULL, 9, 0);
        Due.come(x, BULL, 9, 0);
        Due.come(x, BULL, 9, 0);
        x.calls(3, 1);
        Due.due(20, "of two the least", x.name(0, 3, 0), 2);
        Due.due(20, "7 a day", x.name(0, 3, 1), 61);
        x.calls(3, 2);
        Due.due(20, "the last", x.name(0, 3, 0), 3);
        x.calls(3, 3);
        Due.due(20, "none is free", x.name(0, 3, 0), -4);
        Due.due(20, "none is free, for him who calls them", x.name(3, 3, 0), -4);
        x.answers(2);
        Due.due(20, "one is free", x.name(3, 3, 0), 2);
    }

    /** "make WORK of all he CALLS v (0 .. 99) or more together now". */
    private static void coverAll() {
        WhoeverNamesIt x = new WhoeverNamesIt();
        Due.due(21, "0 of no beasts", x.cover(0, 0), 0);
        Due.due(21, "1 of no beasts", x.cover(0, 1), -4);
        x.means(0, 999);
        for (int b = 0; b < 5; b++) {
            Due.come(x, MARE, 9, 0);
        }
        Due.due(21, "99 of five times 20", x.cover(0, 99), 31);
        Due.due(21, "80 of five times 20", x.cover(0, 80), 15);
        Due.due(21, "81 of five times 20", x.cover(0, 81), 31);
        Due.due(21, "20", x.cover(0, 20), 1);
        Due.due(21, "21", x.cover(0, 21), 3);
        x.calls(1, 0);
        Due.due(21, "99 of four times 20", x.cover(0, 99), -4);
        Due.due(21, "80 without the first", x.cover(0, 80), 30);
        Due.due(21, "his own are enough for 20", x.cover(1, 20), 0);
        Due.due(21, "his own are not for 21", x.cover(1, 21), 2);
        WhoeverNamesIt y = new WhoeverNamesIt();
        for (int b = 0; b < 9; b++) {
            Due.come(y, b == 8 ? MARE : LAMB, 9, 0);
        }
        Due.due(21, "the ninth alone", y.cover(0, 20), 256);
        WhoeverNamesIt z = new WhoeverNamesIt();
        Due.dead(z, 0, MARE, 0);
        Due.due(21, "one dead is not free", z.cover(0, 1), -4);
    }

    /** "so that none he CALLS then is DEAD behind 12 DAYS". */
    private static void coverBehindTwelve() {
        WhoeverNamesIt x = new WhoeverNamesIt();
        Due.come(x, DOG, 1, 0);
        x.means(0, 16);
        Due.due(21, "7 days fed, dead behind 12", x.cover(0, 1), -4);
        x.means(0, 17);
        Due.due(21, "8 days fed, dead behind 13", x.cover(0, 1), 1);
        Due.come(x, GOAT, 1, 0);
        x.means(0, 2);
        Due.due(21, "the goat alone", x.cover(0, 1), 2);
        Due.due(21, "both: the dog comes first, and takes too much", x.cover(0, 4), -4);
        Due.due(21, "0: none is best", x.cover(0, 0), 0);
    }

    /** "the fewest of those one CALLS (bits, of several the least)". */
    private static void letGoOfSeveral() {
        WhoeverNamesIt x = new WhoeverNamesIt();
        Due.come(x, WHELP, 1, 0);
        for (int b = 1; b < 4; b++) {
            Due.come(x, WOLF, 1, 0);
            x.calls(0, b);
        }
        x.calls(1, 0);
        x.means(0, 12);
        Due.due(22, "two of three are fed: the least is let go", x.letGo(0, 5), 2);
        x.means(0, 18);
        Due.due(22, "all three are fed", x.letGo(0, 5), 0);
        x.means(0, 17);
        Due.due(22, "1 less", x.letGo(0, 5), 2);
        x.means(0, 6);
        Due.due(22, "one of three is fed: of the twos the least", x.letGo(0, 5), 6);
        x.means(0, 5);
        Due.due(22, "none is fed: all", x.letGo(0, 5), 14);
        x.means(0, 0);
        Due.due(22, "behind 4 none is dead", x.letGo(0, 4), 0);
        Due.due(22, "40 feed a whelp on 5 days: alive behind 9", x.letGo(1, 9), 0);
        Due.due(22, "dead behind 10", x.letGo(1, 10), 1);
        Due.due(22, "one who calls none", x.letGo(2, 20), 0);
        Due.due(22, "nobody is let go of that", x.count(3), 15);
    }

    /** "leave him none (of those he still CALLS) DEAD": whom he let go he may call again, and that one may be dead. */
    private static void letGoOfThoseHeStillCalls() {
        WhoeverNamesIt x = new WhoeverNamesIt();
        Due.gather(x, 6);
        Due.come(x, LAMB, 9, 6);
        Due.come(x, LAMB, 9, 9);
        x.calls(0, 0);
        x.calls(0, 1);
        x.means(0, 1);
        Due.due(22, "of two the least", x.letGo(0, 5), 1);
        x.tongue(0, POET);
        Due.due(22, "the first comes back at his call and eats ahead of the second", x.letGo(0, 5), 2);
        x.stands(1, 6);
        Due.due(22, "the second comes back and is dead, but he does not still call it", x.letGo(0, 5), 2);
    }

    /** "the PLACE for one by which he has most MEANS behind n DAYS (0 .. 20), of several the least; these". */
    private static void standOfSeveral() {
        WhoeverNamesIt x = new WhoeverNamesIt();
        Due.due(23, "all alike: the least", x.stand(4, 20, 0), 0);
        Due.due(23, "means", x.stand(4, 20, 1), 40);
        x.means(4, 0);
        Due.due(23, "without means: the least", x.stand(4, 20, 0), 0);
        Due.due(23, "none", x.stand(4, 20, 1), 0);
        x.means(4, 40);
        x.tongue(4, POET);
        Due.come(x, BULL, 9, 15);
        Due.due(23, "the last place", x.stand(4, 1, 0), 15);
        Due.due(23, "means there", x.stand(4, 1, 1), 47);
        Due.due(23, "he stays", x.person(4, 1), 12);
        x.stands(0, 0);
        Due.due(23, "the first place", x.stand(4, 1, 0), 0);
        Due.due(23, "means at the first", x.stand(4, 1, 1), 47);
    }

    /** "the least MEANS (0 .. 60)": each of nine must be fed once in 5 days, so just their NEED together is the least. */
    private static void leastUpToSixty() {
        WhoeverNamesIt x = new WhoeverNamesIt();
        for (int b = 0; b < 9; b++) {
            Due.come(x, b < 6 ? WHELP : WOLF, 1, 0);
            x.calls(0, b);
        }
        Due.due(4, "need together", x.person(0, 5), 60);
        Due.due(24, "60", x.least(0, 5), 60);
        Due.due(24, "nobody is dead behind 4", x.least(0, 4), 0);
        WhoeverNamesIt y = new WhoeverNamesIt();
        for (int b = 0; b < 9; b++) {
            Due.come(y, b < 7 ? WHELP : WOLF, 1, 0);
            y.calls(0, b);
        }
        Due.due(4, "need together", y.person(0, 5), 61);
        Due.due(24, "61 is no answer", y.least(0, 5), -4);
        y.answers(8);
        Due.due(24, "55 without the last", y.least(0, 5), 55);
        Due.due(24, "one who calls none", y.least(1, 20), 0);
    }

    /** "with which none he CALLS is DEAD": another's may be. */
    private static void leastOfThoseHeCalls() {
        WhoeverNamesIt x = new WhoeverNamesIt();
        Due.come(x, LAMB, 1, 0);
        Due.come(x, LAMB, 1, 0);
        x.calls(0, 0);
        x.calls(1, 1);
        x.means(1, 0);
        Due.due(24, "another's is dead", x.least(0, 5), 1);
        Due.due(24, "a lamb, 20 days", x.least(0, 20), 16);
        Due.dead(x, 2, LAMB, 0);
        Due.due(24, "one who called one dead", x.least(2, 20), 0);
    }

    /** "who .. leave most BEASTS ALIVE behind n DAYS (0 .. 20), more than else". */
    private static void exchangeMoreThanElse() {
        Due.due(25, "of no beasts", new WhoeverNamesIt().exchange(20), -4);
        WhoeverNamesIt x = new WhoeverNamesIt();
        Due.gather(x, 6);
        Due.come(x, LAMB, 1, 6);
        x.tongue(0, POET);
        Due.due(25, "nobody is dead as it is", x.exchange(20), -4);
        x.means(0, 15);
        Due.due(25, "dead behind 20 as it is", x.exchange(20), 1);
        Due.due(25, "not behind 19", x.exchange(19), -4);
        for (int p = 1; p < 5; p++) {
            x.means(p, 15);
        }
        Due.due(25, "no exchange is more", x.exchange(20), -4);
        x.means(4, 16);
        Due.due(25, "the last of all", x.exchange(20), 4);
        Due.due(25, "tongues stay", x.person(0, 2), POET);
    }

    /** "(10 the lesser and the other) .. of several the first". */
    private static void exchangeTheFirst() {
        WhoeverNamesIt x = new WhoeverNamesIt();
        Due.gather(x, 6);
        Due.come(x, LAMB, 1, 6);
        for (int p = 0; p < 5; p++) {
            x.means(p, 0);
        }
        x.tongue(4, POET);
        Due.due(25, "all are poor", x.exchange(20), -4);
        x.means(3, 16);
        Due.due(25, "the last two", x.exchange(20), 34);
        x.means(1, 16);
        Due.due(25, "of two the first", x.exchange(20), 14);
        x.tongue(4, KIND);
        Due.due(25, "the kind one, hungry at 5: dead behind 7", x.exchange(7), 14);
    }

    /** "the TONGUE for one by which he has most MEANS behind n DAYS (0 .. 30), of several the least; these". */
    private static void teachOfSeveral() {
        WhoeverNamesIt x = new WhoeverNamesIt();
        Due.due(26, "all alike: silent", x.teach(0, 30, 0), 0);
        Due.due(26, "means", x.teach(0, 30, 1), 40);
        x.means(0, 0);
        Due.due(26, "without means: silent", x.teach(0, 30, 0), 0);
        Due.due(26, "none", x.teach(0, 30, 1), 0);
        x.means(0, 40);
        Due.gather(x, 6);
        Due.come(x, LAMB, 1, 6);
        x.tongue(0, POET);
        Due.due(26, "a lamb only eats", x.teach(0, 30, 0), 0);
        Due.come(x, MARE, 9, 6);
        Due.due(26, "proud and poet have the mare, the proud no lamb", x.teach(0, 1, 0), 2);
        x.stands(0, 15);
        Due.due(26, "proud and poet alike: proud", x.teach(0, 1, 0), 2);
        Due.due(26, "means of a day", x.teach(0, 1, 1), 50);
        Due.due(26, "his tongue stays", x.person(0, 2), POET);
    }

    /** "of several the least", of those who have or CALL nothing; "HUNGRIEST .. -4". */
    private static void countsOfNone() {
        WhoeverNamesIt x = new WhoeverNamesIt();
        for (int p = 0; p < 5; p++) {
            x.means(p, 0);
        }
        Due.due(27, "richest of the poor", x.of(0), 0);
        Due.due(27, "loudest of those who call none", x.of(1), 0);
        Due.due(27, "free of none", x.of(2), 0);
        Due.due(27, "pairs of none", x.of(3), 0);
        Due.due(27, "hungriest of none", x.of(4), -4);
        x.means(4, 1);
        Due.due(27, "richest by 1", x.of(0), 4);
        Due.come(x, GOAT, 1, 1);
        x.calls(4, 0);
        Due.due(27, "loudest by 1", x.of(1), 4);
        Due.due(27, "the only one is not free", x.of(2), 0);
        Due.due(27, "one is no pair", x.of(3), 0);
        Due.due(27, "the only one", x.of(4), 0);
    }

    /** "HUNGRIEST: the BEAST ALIVE with most HUNGER, of several the least; -4". */
    private static void hungriestOfSeveral() {
        WhoeverNamesIt x = new WhoeverNamesIt();
        Due.dead(x, 0, LAMB, 0);
        Due.due(27, "one dead, hunger 9", x.of(4), -4);
        Due.come(x, LAMB, 9, 0);
        Due.due(27, "hunger 0", x.of(4), 1);
        x.days(1);
        Due.come(x, LAMB, 9, 0);
        Due.due(27, "hunger 1 ahead of 0", x.of(4), 1);
        x.calls(3, 1);
        x.days(1);
        Due.due(27, "hunger 0 ahead of 1", x.of(4), 2);
        x.answers(1);
        Due.come(x, LAMB, 9, 0);
        x.days(3);
        Due.due(27, "3, 4, 3", x.of(4), 2);
        x.calls(3, 2);
        x.days(1);
        Due.due(27, "4, 0, 4", x.of(4), 1);
    }

    /** "PAIRS: how many twos of BEASTS ALIVE are at one PLACE". */
    private static void pairsOfTheLiving() {
        WhoeverNamesIt x = new WhoeverNamesIt();
        for (int b = 0; b < 9; b++) {
            Due.come(x, LAMB, 9, 15);
        }
        Due.due(27, "nine", x.of(3), 36);
        x.stands(0, 14);
        Due.due(27, "eight and one", x.of(3), 28);
        x.stands(8, 14);
        Due.due(27, "seven and two", x.of(3), 22);
        x.calls(1, 4);
        x.means(1, 0);
        x.days(5);
        Due.due(27, "six and two, and one dead", x.of(3), 16);
        Due.due(27, "free", x.of(2), 511 - 16);
    }
}
