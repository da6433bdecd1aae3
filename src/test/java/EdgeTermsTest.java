/**
 * The sentences of the document's Terms that name an edge, one behind the other, each with the calls that stand at the
 * edge and just beyond it. Each method bears above it the words that it holds to.
 */
public final class EdgeTermsTest {
    private static final int GOAT = 0;
    private static final int LAMB = 1;
    private static final int BULL = 2;
    private static final int MARE = 3;
    private static final int DOG = 4;
    private static final int WOLF = 5;
    private static final int ASS = 6;
    private static final int WHELP = 7;

    private static final int KIND = 1;
    private static final int PROUD = 2;
    private static final int POET = 3;

    private static final int[] NO_PERSON = {-1, 5, Integer.MIN_VALUE, Integer.MAX_VALUE};

    public static void main(String[] args) {
        endsOfThePath();
        nobodyOfThatNumber();
        nobodyOfThatNumberInMind();
        noBeastOfThatNumber();
        atFirst();
        nineAtMost();
        deadWhereItWas();
        deadForAll();
        halfCut();
        needOfNothing();
        ofSeveralTheLeast();
        lambDivides();
        bullHungers();
        wolfAtItsOwnPlace();
        assEven();
        dogAndWhelpOfNobody();
        theyStay();
        silentSaysNothing();
        kindFromFive();
        kindOfNobodys();
        proudFromFour();
        proudOfNobodys();
        poetOfNobodys();
        asAllIsByThen();
        needOrMore();
        byNumbersFed();
        meansAtMost();
        hungerOfTheCalled();
        hungerOfTheFree();
        Due.end("EdgeTermsTest");
    }

    /** "A PATH of PLACES 0 .. 15." */
    private static void endsOfThePath() {
        for (int end = 0; end <= 15; end += 15) {
            WhoeverNamesIt x = new WhoeverNamesIt();
            Due.gather(x, end);
            int b = Due.come(x, GOAT, 1, end);
            Due.due(5, "comes at the end " + end, x.beast(b, 2), end);
            x.days(3);
            Due.due(12, "nobody goes beyond " + end, x.beast(b, 2), end);
            Due.gather(x, 15 - end);
            x.days(15);
            Due.due(12, "15 days to the other end from " + end, x.beast(b, 2), 15 - end);
            x.days(1);
            Due.due(12, "and no further than " + (15 - end), x.beast(b, 2), 15 - end);
        }
        WhoeverNamesIt x = new WhoeverNamesIt();
        x.keep(0, 1, GOAT, 1);
        for (int place : new int[] {-1, 16, Integer.MIN_VALUE, Integer.MAX_VALUE}) {
            Due.due(5, "comes at " + place, x.comes(0, place), -1);
            Due.due(7, "walks to " + place, x.walks(0, place), -1);
        }
        Due.come(x, GOAT, 1, 1);
        for (int place : new int[] {-1, 16, Integer.MIN_VALUE, Integer.MAX_VALUE}) {
            Due.due(6, "stands at " + place, x.stands(0, place), -1);
        }
        Due.due(6, "it stands where it was", x.beast(0, 2), 1);
    }

    /** "PEOPLE 0 .. 4", "-1 no such one". */
    private static void nobodyOfThatNumber() {
        WhoeverNamesIt x = new WhoeverNamesIt();
        Due.come(x, GOAT, 1, 1);
        for (int p : NO_PERSON) {
            Due.due(4, "person(" + p + ")", x.person(p, 0), -1);
            Due.due(7, "walks(" + p + ")", x.walks(p, 0), -1);
            Due.due(8, "calls(" + p + ")", x.calls(p, 0), -1);
            Due.due(10, "tongue(" + p + ")", x.tongue(p, 0), -1);
            Due.due(11, "means(" + p + ")", x.means(p, 0), -1);
        }
        for (int p = 0; p <= 4; p += 4) {
            Due.due(4, "person(" + p + ")", x.person(p, 0), 40);
            Due.due(7, "walks(" + p + ")", x.walks(p, 1), 3 * p);
            Due.due(8, "calls(" + p + ")", x.calls(p, 0), p == 0 ? -4 : 0);
            Due.due(10, "tongue(" + p + ")", x.tongue(p, 1), 0);
            Due.due(11, "means(" + p + ")", x.means(p, 1), 40);
        }
    }

    private static void nobodyOfThatNumberInMind() {
        WhoeverNamesIt x = new WhoeverNamesIt();
        for (int p : NO_PERSON) {
            Due.due(14, "personThen(" + p + ")", x.personThen(p, 0, 0), -1);
            Due.due(17, "ruined(" + p + ")", x.ruined(p), -1);
            Due.due(20, "name(" + p + ")", x.name(p, 0, 0), -1);
            Due.due(21, "cover(" + p + ")", x.cover(p, 0), -1);
            Due.due(22, "letGo(" + p + ")", x.letGo(p, 0), -1);
            Due.due(23, "stand(" + p + ")", x.stand(p, 0, 0), -1);
            Due.due(24, "least(" + p + ")", x.least(p, 0), -1);
            Due.due(26, "teach(" + p + ")", x.teach(p, 0, 0), -1);
            Due.due(32, "two(" + p + ", 0)", x.two(p, 0, 1), -1);
            Due.due(32, "two(0, " + p + ")", x.two(0, p, 1), -1);
            Due.due(34, "share(" + p + ")", x.share(p, 0), 1000000001L);
        }
        for (int p = 0; p <= 4; p += 4) {
            Due.due(14, "personThen(" + p + ")", x.personThen(p, 0, 0), 40);
            Due.due(17, "ruined(" + p + ")", x.ruined(p), -4);
            Due.due(20, "name(" + p + ")", x.name(p, 0, 0), -4);
            Due.due(21, "cover(" + p + ")", x.cover(p, 0), 0);
            Due.due(22, "letGo(" + p + ")", x.letGo(p, 0), 0);
            Due.due(23, "stand(" + p + ")", x.stand(p, 0, 1), 40);
            Due.due(24, "least(" + p + ")", x.least(p, 0), 0);
            Due.due(26, "teach(" + p + ")", x.teach(p, 0, 1), 40);
            Due.due(32, "two(" + p + ", " + (4 - p) + ")", x.two(p, 4 - p, 1), 0);
            Due.due(34, "share(" + p + ")", x.share(p, 0), 1);
        }
    }

    /** "BEASTS 0 .. 8 as they come": what has not come yet is no such one. */
    private static void noBeastOfThatNumber() {
        for (int come = 0; come <= 9; come++) {
            WhoeverNamesIt x = new WhoeverNamesIt();
            for (int b = 0; b < come; b++) {
                Due.due(5, "the next number", Due.come(x, GOAT, 1, 5), b);
            }
            Due.fill(x, 0, 0, 0);
            for (int b : new int[] {-1, come, 9, 10, Integer.MIN_VALUE, Integer.MAX_VALUE}) {
                noBeast(x, b);
            }
            if (come > 0) {
                Due.due(3, "the last is there", x.beast(come - 1, 2), 5);
                Due.due(13, "beastThen of it", x.beastThen(come - 1, 0, 0), 5);
                Due.due(28, "nearest to it", x.nearest(come - 1), 2);
                Due.due(33, "snow of it", x.snow(come - 1, 0, 2, 0), 1);
            }
        }
    }

    private static void noBeast(WhoeverNamesIt x, int b) {
        Due.due(3, "beast(" + b + ")", x.beast(b, 0), -1);
        Due.due(6, "stands(" + b + ")", x.stands(b, 0), -1);
        Due.due(8, "calls(0, " + b + ")", x.calls(0, b), -1);
        Due.due(9, "answers(" + b + ")", x.answers(b), -1);
        Due.due(13, "beastThen(" + b + ")", x.beastThen(b, 0, 0), -1);
        Due.due(15, "named(" + b + ")", x.named(b, 0), -1);
        Due.due(16, "dies(" + b + ")", x.dies(b), b == -1 ? -4 : -1);
        Due.due(28, "nearest(" + b + ")", x.nearest(b), -1);
        Due.due(29, "whatIs(0, " + b + ")", x.whatIs(0, b, 0), -1);
        Due.due(30, "whereFrom(0, " + b + ")", x.whereFrom(0, b), -1);
        Due.due(31, "whose(0, " + b + ")", x.whose(0, b), -1);
        Due.due(33, "snow(" + b + ")", x.snow(b, 0, 2, 0), 1000000001L);
    }

    /** "HUNGER (0 .. 9; 0 at first), CALLED by .. nobody (at first), ALIVE (at first)", on any day and behind any other. */
    private static void atFirst() {
        WhoeverNamesIt x = new WhoeverNamesIt();
        Due.dead(x, 0, GOAT, 5);
        x.days(20);
        int b = Due.come(x, DOG, 9, 15);
        Due.due(5, "hunger at first", x.beast(b, 3), 0);
        Due.due(5, "called by nobody at first", x.beast(b, 4), -4);
        Due.due(5, "alive at first", x.beast(b, 5), 1);
        x.image();
        Due.come(x, DOG, 9, 15);
        x.calls(3, 2);
        x.days(9);
        x.restore();
        int c = Due.come(x, DOG, 9, 15);
        Due.due(5, "number behind the image", c, 2);
        Due.due(5, "hunger at first, behind the image", x.beast(c, 3), 0);
        Due.due(5, "called by nobody, behind the image", x.beast(c, 4), -4);
    }

    /** "BEASTS 0 .. 8 as they come (9 at most)", "-2 there is no room": one dead keeps its room. */
    private static void nineAtMost() {
        WhoeverNamesIt x = new WhoeverNamesIt();
        x.keep(0, 1, LAMB, 9);
        for (int b = 0; b < 9; b++) {
            Due.due(5, "comes", x.comes(0, b), b);
            x.calls(0, b);
        }
        Due.due(5, "no room for a tenth", x.comes(0, 0), -2);
        x.means(0, 0);
        Due.due(12, "all are dead", x.days(5), 0);
        Due.due(5, "no room behind nine dead", x.comes(0, 0), -2);
        Due.due(2, "nor in a text", Due.tell(x, "b0000;"), -2000);
        Due.due(5, "-1 ahead of -2", x.comes(0, 16), -1);
        Due.due(5, "no shelf, ahead of -2", x.comes(8, 0), -1);
        Due.due(5, "-11 ahead of -2", x.comes(1, 0), -11);
        x.row(1, 0, 1);
        Due.due(5, "-12 ahead of -2", x.comes(1, 0), -12);
        Due.due(5, "-1 ahead of -12", x.comes(1, -1), -1);
        Due.due(40, "nine there are", x.count(0), 9);
    }

    /** "DEAD (CALLED by nobody then, at the PLACE where it was)". */
    private static void deadWhereItWas() {
        WhoeverNamesIt x = new WhoeverNamesIt();
        int dog = Due.come(x, DOG, 1, 5);
        x.calls(4, dog);
        x.means(4, 0);
        x.days(4);
        Due.due(12, "on its way behind 4 days", x.beast(dog, 2), 9);
        Due.due(12, "hunger 8", x.beast(dog, 3), 8);
        Due.due(12, "dead behind 5", x.days(1), 0);
        Due.due(12, "it went on that day", x.beast(dog, 2), 10);
        x.days(9);
        Due.due(12, "it stays there", x.beast(dog, 2), 10);
        Due.due(12, "hunger stays", x.beast(dog, 3), 9);
        Due.due(12, "called by nobody", x.beast(dog, 4), -4);
        Due.due(12, "one grief", x.person(4, 3), 1);
        Due.due(13, "in mind too", x.beastThen(dog, 60, 0), 10);
        Due.due(13, "called by nobody in mind", x.beastThen(dog, 60, 2), -4);
    }

    /** "BEASTS ALIVE" go, are called, are fed: one DEAD is neither. */
    private static void deadForAll() {
        for (int tongue = KIND; tongue <= POET; tongue++) {
            WhoeverNamesIt x = new WhoeverNamesIt();
            int mare = Due.dead(x, 0, MARE, 0);
            int where = x.beast(mare, 2);
            x.walks(2, where);
            x.tongue(2, tongue);
            x.days(1);
            Due.due(12, "one dead is not called by tongue " + tongue, x.person(2, 4), 0);
            Due.due(12, "nor fed", x.person(2, 0), 40);
            Due.due(15, "nor named", x.named(mare, 0), -4);
            Due.due(40, "nor called by anybody", x.count(3), 0);
        }
    }

    /** "ASS half of a MARE's, cut", with each figure 0 .. 9. */
    private static void halfCut() {
        int[] need = {0, 1, 1, 2, 2, 3, 3, 4, 4, 5};
        for (int figure = 0; figure < 9; figure++) {
            WhoeverNamesIt x = new WhoeverNamesIt();
            Due.due(3, "need of an ass", x.beast(Due.come(x, ASS, figure, 0), 6), need[figure]);
            Due.due(3, "work of an ass", x.beast(Due.come(x, ASS, figure, 0), 7), 2 * figure + 1);
            Due.due(3, "need of a mare", x.beast(Due.come(x, MARE, figure, 0), 6), figure + 1);
            Due.due(3, "need of a bull", x.beast(Due.come(x, BULL, figure, 0), 6), figure + 2);
        }
        WhoeverNamesIt x = new WhoeverNamesIt();
        Due.due(3, "need of an ass of 9", x.beast(Due.come(x, ASS, 9, 0), 6), 5);
        Due.due(3, "work of an ass of 9", x.beast(0, 7), 19);
        Due.due(3, "need of a mare of 9", x.beast(Due.come(x, MARE, 9, 0), 6), 10);
        Due.due(3, "work of a mare of 9", x.beast(1, 7), 20);
        Due.due(3, "need of a bull of 9", x.beast(Due.come(x, BULL, 9, 0), 6), 11);
        Due.due(3, "work of a bull of 9", x.beast(2, 7), 18);
        Due.due(3, "need of a whelp of 9", x.beast(Due.come(x, WHELP, 9, 0), 6), 7);
    }

    /** "MEANS of its NEED or more", where the NEED is 0: an ass of figure 0 is fed by one who has nothing. */
    private static void needOfNothing() {
        WhoeverNamesIt x = new WhoeverNamesIt();
        int ass = Due.come(x, ASS, 0, 0);
        x.days(3);
        x.calls(0, ass);
        x.means(0, 0);
        Due.due(17, "0 is not less than 0", x.ruined(0), -4);
        x.days(1);
        Due.due(12, "fed with nothing", x.beast(ass, 3), 0);
        Due.due(12, "its work", x.person(0, 0), 1);
    }

    /** "(of several the least number)", "(of several the least)". */
    private static void ofSeveralTheLeast() {
        WhoeverNamesIt x = new WhoeverNamesIt();
        Due.gather(x, 15);
        x.walks(2, 4);
        x.walks(1, 6);
        Due.due(3, "between 1 and 2", x.beast(Due.come(x, GOAT, 1, 5), 8), 6);
        Due.due(28, "nearest between 1 and 2", x.nearest(0), 1);
        x.means(4, 50);
        x.means(3, 50);
        x.walks(3, 8);
        x.walks(4, 9);
        Due.due(3, "a mare, of two as rich", x.beast(Due.come(x, MARE, 1, 5), 8), 8);
        Due.due(3, "an ass, of two as rich", x.beast(Due.come(x, ASS, 1, 5), 8), 8);
        x.means(4, 51);
        Due.due(3, "a mare, one richer by 1", x.beast(1, 8), 9);
        x.walks(1, 7);
        Due.due(3, "nearer by 1", x.beast(0, 8), 4);
    }

    /** "LAMB as a GOAT, if 2 more than FIGURE divides d, else none", DAY 999 and the day behind it too. */
    private static void lambDivides() {
        WhoeverNamesIt x = new WhoeverNamesIt();
        Due.gather(x, 15);
        Due.come(x, LAMB, 0, 0);
        Due.come(x, LAMB, 9, 0);
        for (int d = 1; d <= 23; d++) {
            Due.due(3, "figure 0 on day " + d, x.beast(0, 8), d % 2 == 0 ? 15 : -4);
            Due.due(3, "figure 9 on day " + d, x.beast(1, 8), d == 11 || d == 22 ? 15 : -4);
            x.days(1);
        }
        Due.due(12, "figure 0 went each second day", x.beast(0, 2), 11);
        Due.due(12, "figure 9 went on days 11 and 22", x.beast(1, 2), 2);
        for (int i = 0; i < 16; i++) {
            x.days(60);
        }
        x.days(16);
        Due.due(40, "the last day", x.count(1), 999);
        Due.come(x, LAMB, 0, 1);
        Due.come(x, LAMB, 1, 1);
        Due.come(x, LAMB, 8, 1);
        Due.come(x, LAMB, 9, 1);
        Due.due(3, "2 divides 1000", x.beast(2, 8), 15);
        Due.due(3, "3 does not divide 1000", x.beast(3, 8), -4);
        Due.due(3, "10 divides 1000", x.beast(4, 8), 15);
        Due.due(3, "11 does not divide 1000", x.beast(5, 8), -4);
        Due.due(13, "11 divides 1001", x.beastThen(5, 2, 0), 2);
        Due.due(19, "who goes on day 1000", x.next(2), 4 + 16);
    }

    /** "BULL as a GOAT, if HUNGER is FIGURE or more, else none". */
    private static void bullHungers() {
        WhoeverNamesIt x = new WhoeverNamesIt();
        Due.gather(x, 15);
        Due.come(x, BULL, 9, 0);
        Due.come(x, BULL, 8, 0);
        Due.come(x, BULL, 0, 0);
        Due.due(3, "figure 0, hunger 0", x.beast(2, 8), 15);
        x.days(8);
        Due.due(3, "figure 9, hunger 8", x.beast(0, 8), -4);
        Due.due(3, "figure 8, hunger 8", x.beast(1, 8), 15);
        x.days(1);
        Due.due(3, "figure 9, hunger 9", x.beast(0, 8), 15);
        Due.due(3, "figure 8, hunger 9", x.beast(1, 8), 15);
    }

    /** "WOLF 15, if the nearest of PEOPLE is at its own PLACE or a lesser one, else 0". */
    private static void wolfAtItsOwnPlace() {
        WhoeverNamesIt x = new WhoeverNamesIt();
        Due.gather(x, 7);
        Due.due(3, "at its own place", x.beast(Due.come(x, WOLF, 1, 7), 8), 15);
        Due.due(3, "one greater", x.beast(Due.come(x, WOLF, 1, 6), 8), 0);
        Due.due(3, "one lesser", x.beast(Due.come(x, WOLF, 1, 8), 8), 15);
        Due.gather(x, 0);
        Due.due(3, "both at 0", x.beast(Due.come(x, WHELP, 1, 0), 8), 15);
        Due.gather(x, 15);
        Due.due(3, "both at 15", x.beast(Due.come(x, WOLF, 1, 15), 8), 15);
        Due.due(3, "at 0, far away", x.beast(3, 8), 0);
        x.days(2);
        Due.due(12, "the wolf at 15 stays", x.beast(4, 2), 15);
        Due.due(12, "the whelp at 0 stays", x.beast(3, 2), 0);
    }

    /** "ASS as a MARE, if its HUNGER is even, else none": 0 .. 9. */
    private static void assEven() {
        WhoeverNamesIt x = new WhoeverNamesIt();
        Due.gather(x, 15);
        Due.come(x, ASS, 1, 0);
        for (int hunger = 0; hunger <= 9; hunger++) {
            Due.due(3, "hunger " + hunger, x.beast(0, 8), hunger % 2 == 0 ? 15 : -4);
            x.days(1);
        }
        Due.due(3, "hunger 9 still", x.beast(0, 8), -4);
    }

    /** "CALLED by nobody as a GOAT", "CALLED by nobody as a WOLF". */
    private static void dogAndWhelpOfNobody() {
        WhoeverNamesIt x = new WhoeverNamesIt();
        int dog = Due.come(x, DOG, 1, 8);
        int whelp = Due.come(x, WHELP, 1, 8);
        Due.due(3, "dog of nobody", x.beast(dog, 8), 9);
        Due.due(3, "whelp of nobody", x.beast(whelp, 8), 0);
        x.calls(0, dog);
        x.calls(0, whelp);
        Due.due(3, "dog of 0", x.beast(dog, 8), 0);
        x.walks(0, 15);
        Due.due(3, "whelp of 0 who walked", x.beast(whelp, 8), 15);
        x.answers(dog);
        x.answers(whelp);
        Due.due(3, "dog of nobody again", x.beast(dog, 8), 9);
        Due.due(3, "whelp of nobody again", x.beast(whelp, 8), 0);
    }

    /** "(at it, or with none: they stay)". */
    private static void theyStay() {
        WhoeverNamesIt x = new WhoeverNamesIt();
        Due.gather(x, 6);
        Due.come(x, GOAT, 1, 6);
        Due.come(x, LAMB, 9, 2);
        Due.come(x, GOAT, 1, 5);
        Due.come(x, GOAT, 1, 7);
        Due.due(19, "one above and one below go", x.next(2), 4 + 8);
        x.days(1);
        Due.due(12, "at it", x.beast(0, 2), 6);
        Due.due(12, "with none", x.beast(1, 2), 2);
        Due.due(12, "1 more", x.beast(2, 2), 6);
        Due.due(12, "1 less", x.beast(3, 2), 6);
        Due.due(19, "nobody goes then", x.next(2), 0);
    }

    /** "SILENT nothing". */
    private static void silentSaysNothing() {
        WhoeverNamesIt x = new WhoeverNamesIt();
        Due.come(x, MARE, 9, 0);
        x.days(9);
        Due.due(12, "a hungry mare with silent people", x.count(3), 0);
        Due.due(12, "her hunger", x.beast(0, 3), 9);
    }

    /** "KIND CALLS .. with HUNGER 5 or more, the least number". */
    private static void kindFromFive() {
        WhoeverNamesIt x = new WhoeverNamesIt();
        Due.gather(x, 6);
        Due.come(x, GOAT, 1, 6);
        x.days(1);
        Due.come(x, GOAT, 1, 6);
        Due.come(x, GOAT, 1, 6);
        x.days(4);
        x.tongue(3, KIND);
        Due.due(3, "hunger 5", x.beast(0, 3), 5);
        Due.due(3, "hunger 4", x.beast(1, 3), 4);
        x.days(1);
        Due.due(12, "5 is called, 4 is not", x.person(3, 4), 1);
        x.days(1);
        Due.due(12, "of two with 5 the least", x.person(3, 4), 3);
        x.days(1);
        Due.due(12, "then the other, with 6", x.person(3, 4), 7);
    }

    /** "of the BEASTS ALIVE at his PLACE CALLED by nobody". */
    private static void kindOfNobodys() {
        WhoeverNamesIt x = new WhoeverNamesIt();
        Due.gather(x, 6);
        Due.come(x, LAMB, 9, 6);
        Due.come(x, LAMB, 9, 5);
        Due.come(x, LAMB, 9, 7);
        Due.come(x, LAMB, 9, 6);
        x.days(5);
        x.calls(1, 0);
        x.tongue(3, KIND);
        x.days(1);
        Due.due(12, "neither another's nor one beside him", x.person(3, 4), 8);
        Due.due(12, "the other's stays", x.person(1, 4), 1);
    }

    /** "PROUD, of those there CALLED by nobody with WORK 4 or more, that of most WORK, of several the least number". */
    private static void proudFromFour() {
        WhoeverNamesIt x = new WhoeverNamesIt();
        Due.gather(x, 6);
        Due.come(x, GOAT, 9, 6);
        Due.come(x, ASS, 1, 6);
        Due.come(x, MARE, 0, 6);
        x.tongue(3, PROUD);
        x.days(1);
        Due.due(12, "work 3, 3 and 2", x.person(3, 4), 0);
        Due.come(x, MARE, 1, 6);
        Due.come(x, BULL, 2, 6);
        x.days(1);
        Due.due(12, "of two with work 4 the least", x.person(3, 4), 8);
        Due.come(x, ASS, 2, 6);
        x.days(1);
        Due.due(12, "work 5 ahead of work 4", x.person(3, 4), 8 + 32);
        x.days(1);
        Due.due(12, "then work 4", x.person(3, 4), 8 + 32 + 16);
        x.days(5);
        Due.due(12, "then none", x.person(3, 4), 8 + 32 + 16);
    }

    private static void proudOfNobodys() {
        WhoeverNamesIt x = new WhoeverNamesIt();
        Due.gather(x, 6);
        Due.come(x, MARE, 9, 6);
        Due.come(x, BULL, 8, 5);
        Due.come(x, BULL, 7, 6);
        x.calls(0, 0);
        x.tongue(3, PROUD);
        x.days(1);
        Due.due(12, "neither another's nor one beside him", x.person(3, 4), 4);
        Due.due(12, "the other's stays", x.person(0, 4), 1);
    }

    /** "POET all those there CALLED by nobody". */
    private static void poetOfNobodys() {
        WhoeverNamesIt x = new WhoeverNamesIt();
        Due.gather(x, 6);
        for (int b = 0; b < 9; b++) {
            Due.come(x, LAMB, 9, b == 4 ? 5 : b == 5 ? 7 : 6);
        }
        x.calls(0, 2);
        x.tongue(3, POET);
        x.days(1);
        Due.due(12, "neither another's nor those beside him", x.person(3, 4), 511 - 4 - 16 - 32);
        Due.due(12, "the other's stays", x.person(0, 4), 4);
    }

    /** "Then PEOPLE speak, by numbers, as all is by then": behind the way of that day, and behind who spoke already. */
    private static void asAllIsByThen() {
        WhoeverNamesIt x = new WhoeverNamesIt();
        Due.gather(x, 6);
        Due.come(x, GOAT, 1, 5);
        Due.come(x, GOAT, 1, 7);
        x.tongue(4, POET);
        x.tongue(3, POET);
        x.days(1);
        Due.due(12, "who came on that day is called by 3", x.person(3, 4), 3);
        Due.due(12, "nothing is left for 4", x.person(4, 4), 0);
        Due.due(12, "and fed on that day", x.person(3, 0), 42);
        WhoeverNamesIt y = new WhoeverNamesIt();
        Due.gather(y, 6);
        Due.come(y, LAMB, 9, 6);
        Due.come(y, LAMB, 9, 6);
        Due.come(y, LAMB, 9, 6);
        y.days(5);
        y.tongue(0, KIND);
        y.tongue(1, KIND);
        y.days(1);
        Due.due(12, "the first kind one has the least", y.person(0, 4), 1);
        Due.due(12, "the second has the next", y.person(1, 4), 2);
        Due.due(12, "hunger 6 of the third", y.beast(2, 3), 6);
    }

    /** "CALLED by somebody who has MEANS of its NEED or more is fed .. CALLED by somebody who has less". */
    private static void needOrMore() {
        int[] need = {2, 1, 6, 5, 3, 6, 2, 7};
        int[] left = {3, 0, 8, 10, 1, 0, 9, 0};
        for (int sort = 0; sort < 8; sort++) {
            WhoeverNamesIt x = new WhoeverNamesIt();
            Due.come(x, sort, 4, 0);
            x.calls(0, 0);
            x.means(0, need[sort]);
            x.days(1);
            Due.due(12, "just its need, sort " + sort, x.beast(0, 3), 0);
            Due.due(12, "its work is left, sort " + sort, x.person(0, 0), left[sort]);
            x.means(0, need[sort] - 1);
            x.days(1);
            Due.due(12, "1 less, sort " + sort, x.beast(0, 3), 2);
            Due.due(12, "nothing is taken, sort " + sort, x.person(0, 0), need[sort] - 1);
        }
    }

    /** "Then BEASTS ALIVE, by numbers": what the first brings can feed the second, not the other way round. */
    private static void byNumbersFed() {
        WhoeverNamesIt x = new WhoeverNamesIt();
        Due.come(x, GOAT, 1, 0);
        Due.come(x, DOG, 1, 0);
        Due.come(x, GOAT, 1, 3);
        x.calls(0, 0);
        x.calls(0, 1);
        x.means(0, 2);
        x.days(1);
        Due.due(12, "the dog by the goat's work", x.beast(1, 3), 0);
        Due.due(12, "means", x.person(0, 0), 1);
        WhoeverNamesIt y = new WhoeverNamesIt();
        Due.come(y, DOG, 1, 0);
        Due.come(y, GOAT, 1, 0);
        y.calls(0, 0);
        y.calls(0, 1);
        y.means(0, 2);
        y.days(1);
        Due.due(12, "the dog ahead of the goat", y.beast(0, 3), 2);
        Due.due(12, "means", y.person(0, 0), 3);
    }

    /** "(999 at most)". */
    private static void meansAtMost() {
        WhoeverNamesIt x = new WhoeverNamesIt();
        Due.come(x, BULL, 9, 0);
        x.calls(0, 0);
        int[] before = {991, 992, 993, 998, 999};
        int[] behind = {998, 999, 999, 999, 999};
        for (int i = 0; i < before.length; i++) {
            x.means(0, before[i]);
            x.days(1);
            Due.due(12, "7 more than " + before[i], x.person(0, 0), behind[i]);
        }
        Due.due(20, "means in mind", x.personThen(0, 60, 0), 999);
    }

    /** "its HUNGER is 2 more (9 at most), and at 9 it is DEAD, and his GRIEF 1 more". */
    private static void hungerOfTheCalled() {
        for (int hunger = 0; hunger <= 9; hunger++) {
            WhoeverNamesIt x = new WhoeverNamesIt();
            Due.come(x, LAMB, 9, 0);
            for (int d = 0; d < hunger; d++) {
                x.days(1);
            }
            x.calls(2, 0);
            Due.due(8, "a call feeds nobody", x.beast(0, 3), hunger);
            x.means(2, 0);
            Due.due(16, "dies(0), hunger " + hunger, x.dies(0), hunger >= 7 ? 1 : (10 - hunger) / 2);
            Due.due(12, "alive behind a day, hunger " + hunger, x.days(1), hunger >= 7 ? 0 : 1);
            Due.due(12, "hunger behind a day, hunger " + hunger, x.beast(0, 3), Math.min(9, hunger + 2));
            Due.due(12, "caller behind a day, hunger " + hunger, x.beast(0, 4), hunger >= 7 ? -4 : 2);
            Due.due(12, "grief behind a day, hunger " + hunger, x.person(2, 3), hunger >= 7 ? 1 : 0);
        }
    }

    /** "CALLED by nobody, its HUNGER is 1 more (9 at most)": of that nobody is dead; fed, it is 0 at once. */
    private static void hungerOfTheFree() {
        WhoeverNamesIt x = new WhoeverNamesIt();
        Due.come(x, LAMB, 9, 0);
        for (int d = 0; d < 12; d++) {
            Due.due(12, "hunger behind " + d, x.beast(0, 3), Math.min(9, d));
            Due.due(12, "alive behind " + d, x.days(1), 1);
        }
        Due.due(16, "nobody dies of that", x.dies(0), -4);
        x.calls(0, 0);
        x.days(1);
        Due.due(12, "fed at 9", x.beast(0, 3), 0);
        Due.due(12, "by 1 of means", x.person(0, 0), 39);
    }
}
