/** Promises 13 to 28: days on, whom to name, whom to let go. Worked out by hand; lambs that eat 1 a day serve as clocks. */
public final class ThenTest {
    private static final int GOAT = 0;
    private static final int LAMB = 1;
    private static final int BULL = 2;
    private static final int MARE = 3;
    private static final int WOLF = 5;

    private static final int KIND = 1;
    private static final int PROUD = 2;
    private static final int POET = 3;

    public static void main(String[] args) {
        beastThen();
        personThen();
        named();
        dies();
        ruined();
        still();
        next();
        name();
        cover();
        letGo();
        stand();
        least();
        exchange();
        teach();
        of();
        nearest();
        nothingOfItHappens();
        Due.end("ThenTest");
    }

    /** A lamb called by a person with so many means. */
    private static WhoeverNamesIt clock(int means) {
        WhoeverNamesIt x = new WhoeverNamesIt();
        Due.come(x, LAMB, 9, 0);
        x.calls(2, 0);
        x.means(2, means);
        return x;
    }

    private static void beastThen() {
        WhoeverNamesIt x = clock(3);
        Due.come(x, GOAT, 0, 1);
        Due.due(13, "now", x.beastThen(0, 0, 1), 0);
        Due.due(13, "fed 3 days", x.beastThen(0, 3, 1), 0);
        Due.due(13, "hungry", x.beastThen(0, 4, 1), 2);
        Due.due(13, "called by", x.beastThen(0, 7, 2), 2);
        Due.due(13, "called by, dead", x.beastThen(0, 8, 2), -4);
        Due.due(13, "hunger, dead", x.beastThen(0, 60, 1), 9);
        Due.due(13, "place of the goat", x.beastThen(1, 1, 0), 0);
        Due.due(13, "place of the goat now", x.beastThen(1, 0, 0), 1);
        Due.due(13, "of nobody", x.beastThen(1, 60, 2), -4);
        Due.due(13, "lamb goes on day 11", x.beastThen(0, 60, 0), 0);
        Due.due(13, "b -1", x.beastThen(-1, 0, 0), -1);
        Due.due(13, "b 2", x.beastThen(2, 0, 0), -1);
        Due.due(13, "n -1", x.beastThen(0, -1, 0), -1);
        Due.due(13, "n 61", x.beastThen(0, 61, 0), -1);
        Due.due(13, "what -1", x.beastThen(0, 0, -1), -1);
        Due.due(13, "what 3", x.beastThen(0, 0, 3), -1);
        Due.due(13, "what of the greatest", x.beastThen(0, 0, Integer.MAX_VALUE), -1);
        lastDayInMind(new WhoeverNamesIt());
    }

    private static void lastDayInMind(WhoeverNamesIt x) {
        for (int i = 0; i < 16; i++) {
            x.days(60);
        }
        x.days(39);
        Due.come(x, LAMB, 9, 1);
        x.walks(0, 15);
        x.walks(1, 15);
        x.walks(2, 15);
        x.walks(3, 15);
        x.walks(4, 15);
        Due.due(13, "days 1001 to 1056 by elevens", x.beastThen(0, 60, 0), 7);
    }

    private static void personThen() {
        WhoeverNamesIt x = clock(3);
        Due.due(14, "means now", x.personThen(2, 0, 0), 3);
        Due.due(14, "means", x.personThen(2, 2, 0), 1);
        Due.due(14, "means at the end", x.personThen(2, 60, 0), 0);
        Due.due(14, "grief before", x.personThen(2, 7, 1), 0);
        Due.due(14, "grief", x.personThen(2, 8, 1), 1);
        Due.due(14, "beasts", x.personThen(2, 7, 2), 1);
        Due.due(14, "beasts, dead", x.personThen(2, 8, 2), 0);
        Due.due(14, "p -1", x.personThen(-1, 0, 0), -1);
        Due.due(14, "p 5", x.personThen(5, 0, 0), -1);
        Due.due(14, "n -1", x.personThen(0, -1, 0), -1);
        Due.due(14, "n 61", x.personThen(0, 61, 0), -1);
        Due.due(14, "what -1", x.personThen(0, 0, -1), -1);
        Due.due(14, "what 3", x.personThen(0, 0, 3), -1);
    }

    /** All people at 15, a lamb that goes each tenth day. */
    private static WhoeverNamesIt slowLamb(int place) {
        WhoeverNamesIt x = new WhoeverNamesIt();
        for (int p = 0; p < 5; p++) {
            x.walks(p, 15);
        }
        Due.come(x, LAMB, 8, place);
        return x;
    }

    private static void named() {
        WhoeverNamesIt x = slowLamb(9);
        x.tongue(3, POET);
        Due.due(15, "on day 60", x.named(0, 0), 60);
        Due.due(15, "on day 60 by 3", x.named(0, 1), 3);
        x.stands(0, 8);
        Due.due(15, "on day 70 is too late", x.named(0, 0), -4);
        Due.due(15, "by nobody", x.named(0, 1), -4);
        x.calls(4, 0);
        Due.due(15, "now", x.named(0, 0), 0);
        Due.due(15, "now by 4", x.named(0, 1), 4);
        x.answers(0);
        x.stands(0, 15);
        Due.due(15, "on day 1", x.named(0, 0), 1);
        Due.due(15, "b -1", x.named(-1, 0), -1);
        Due.due(15, "b 1", x.named(1, 0), -1);
        Due.due(15, "what -1", x.named(0, -1), -1);
        Due.due(15, "what 2", x.named(0, 2), -1);
        Due.due(15, "one dead", x.named(Due.dead(x, 0, GOAT, 15), 0), -4);
    }

    private static void dies() {
        Due.due(16, "first of none", new WhoeverNamesIt().dies(-1), -4);
        Due.due(16, "behind 60", clock(55).dies(0), 60);
        Due.due(16, "first behind 60", clock(55).dies(-1), 0);
        Due.due(16, "behind 61", clock(56).dies(0), -4);
        Due.due(16, "first behind 61", clock(56).dies(-1), -4);
        WhoeverNamesIt x = clock(2);
        Due.come(x, LAMB, 9, 0);
        Due.come(x, LAMB, 9, 0);
        Due.come(x, LAMB, 9, 0);
        x.calls(3, 1);
        x.calls(4, 2);
        x.means(3, 1);
        x.means(4, 1);
        Due.due(16, "fed 2 days", x.dies(0), 7);
        Due.due(16, "fed 1 day", x.dies(1), 6);
        Due.due(16, "one of nobody", x.dies(3), -4);
        Due.due(16, "first, of two the least", x.dies(-1), 1);
        x.days(6);
        Due.due(16, "dead now", x.dies(1), 0);
        Due.due(16, "first of those alive", x.dies(-1), 0);
        Due.due(16, "behind the next day", x.dies(0), 1);
        x.days(1);
        Due.due(16, "none alive will die", x.dies(-1), -4);
        Due.due(16, "b -2", x.dies(-2), -1);
        Due.due(16, "b 4", x.dies(4), -1);
        Due.due(16, "b of the least", x.dies(Integer.MIN_VALUE), -1);
    }

    private static void ruined() {
        Due.due(17, "of one who calls none", new WhoeverNamesIt().ruined(0), -4);
        Due.due(17, "now", clock(0).ruined(2), 0);
        Due.due(17, "behind 1", clock(1).ruined(2), 1);
        Due.due(17, "behind 60", clock(60).ruined(2), 60);
        Due.due(17, "behind 61", clock(61).ruined(2), -4);
        WhoeverNamesIt x = clock(7);
        Due.come(x, WOLF, 9, 0);
        x.calls(2, 1);
        Due.due(17, "means of just all the need, then none", x.ruined(2), 1);
        x.means(2, 6);
        Due.due(17, "means below all the need", x.ruined(2), 0);
        Due.due(17, "p -1", x.ruined(-1), -1);
        Due.due(17, "p 5", x.ruined(5), -1);
    }

    private static void still() {
        Due.due(18, "of none", new WhoeverNamesIt().still(), 0);
        Due.due(18, "at once", slowLamb(15).still(), 0);
        Due.due(18, "the last day on 10", slowLamb(14).still(), 10);
        Due.due(18, "the last day on 40", slowLamb(11).still(), 40);
        Due.due(18, "the last day on 50", slowLamb(10).still(), -4);
        Due.due(18, "the last day on 38", lambOfThreeDays(2).still(), 38);
        Due.due(18, "the last day on 41", lambOfThreeDays(1).still(), -4);
        Due.due(18, "20 quiet days ahead of more", hungryBull(21).still(), 0);
        Due.due(18, "19 quiet days ahead of more", hungryBull(20).still(), 23);
    }

    /** On day 1, all people at 15: the lamb goes behind 2, 5, 8, .. days. */
    private static WhoeverNamesIt lambOfThreeDays(int place) {
        WhoeverNamesIt x = slowLamb(15);
        Due.come(x, LAMB, 1, place);
        x.days(1);
        return x;
    }

    /** A bull of figure 1, called: it loses 1 of means a day, and goes when it hungers, till it is dead. */
    private static WhoeverNamesIt hungryBull(int means) {
        WhoeverNamesIt x = new WhoeverNamesIt();
        for (int p = 0; p < 5; p++) {
            x.walks(p, 15);
        }
        Due.come(x, BULL, 1, 2);
        x.calls(0, 0);
        x.means(0, means);
        return x;
    }

    private static void next() {
        WhoeverNamesIt x = clock(1);
        Due.come(x, GOAT, 9, 1);
        Due.come(x, GOAT, 9, 9);
        x.tongue(0, POET);
        x.days(5);
        Due.come(x, GOAT, 9, 1);
        Due.come(x, GOAT, 9, 11);
        Due.due(19, "called by somebody now", x.count(3), 3);
        Due.due(19, "called", x.next(0), 8);
        Due.due(19, "dead", x.next(1), 1);
        Due.due(19, "gone", x.next(2), 8 + 16);
        x.days(1);
        Due.due(19, "nobody more is called", x.next(0), 0);
        Due.due(19, "nobody more is dead", x.next(1), 0);
        Due.due(19, "nobody goes", x.next(2), 0);
        WhoeverNamesIt y = clock(0);
        y.days(4);
        Due.due(19, "hunger 8, without means", y.next(1), 1);
        y.means(2, 1);
        Due.due(19, "hunger 8, with means of just its need", y.next(1), 0);
        Due.due(19, "what -1", x.next(-1), -1);
        Due.due(19, "what 3", x.next(3), -1);
    }

    private static void name() {
        WhoeverNamesIt x = new WhoeverNamesIt();
        Due.come(x, LAMB, 1, 0);
        Due.come(x, GOAT, 1, 0);
        Due.come(x, BULL, 5, 0);
        Due.come(x, BULL, 5, 0);
        Due.due(20, "the bull", x.name(1, 10, 0), 2);
        Due.due(20, "its means", x.name(1, 10, 1), 70);
        Due.due(20, "n 30", x.name(1, 30, 1), 130);
        Due.due(20, "n 0: not more", x.name(1, 0, 0), -4);
        Due.due(20, "n 0: no means", x.name(1, 0, 1), -4);
        x.calls(1, 2);
        Due.due(20, "the other bull", x.name(1, 1, 0), 3);
        Due.due(20, "with what he has by then", x.name(1, 1, 1), 46);
        x.calls(2, 3);
        Due.due(20, "the goat", x.name(1, 1, 0), 1);
        x.calls(2, 1);
        Due.due(20, "a lamb brings nothing", x.name(1, 1, 0), -4);
        Due.due(20, "p -1", x.name(-1, 0, 0), -1);
        Due.due(20, "p 5", x.name(5, 0, 0), -1);
        Due.due(20, "n -1", x.name(0, -1, 0), -1);
        Due.due(20, "n 31", x.name(0, 31, 0), -1);
        Due.due(20, "what -1", x.name(0, 0, -1), -1);
        Due.due(20, "what 2", x.name(0, 0, 2), -1);
        WhoeverNamesIt y = new WhoeverNamesIt();
        Due.dead(y, 0, GOAT, 0);
        Due.due(20, "one dead", y.name(0, 9, 0), -4);
        WhoeverNamesIt z = new WhoeverNamesIt();
        Due.come(z, GOAT, 1, 0);
        Due.come(z, GOAT, 1, 0);
        Due.due(20, "of two goats the first", z.name(0, 9, 0), 0);
        Due.due(20, "with means of just its need", z.name(0, 9, 1), 49);
    }

    private static void cover() {
        WhoeverNamesIt x = new WhoeverNamesIt();
        Due.come(x, GOAT, 1, 0);
        Due.come(x, BULL, 3, 0);
        Due.come(x, BULL, 3, 0);
        Due.come(x, MARE, 3, 0);
        Due.due(21, "none is enough", x.cover(1, 0), 0);
        Due.due(21, "one, the least", x.cover(1, 3), 1);
        Due.due(21, "one, the first bull", x.cover(1, 6), 2);
        Due.due(21, "one, the mare", x.cover(1, 7), 8);
        Due.due(21, "two, the least", x.cover(1, 9), 3);
        Due.due(21, "two, though three bits would be less", x.cover(1, 14), 10);
        Due.due(21, "all", x.cover(1, 23), 15);
        Due.due(21, "more than all", x.cover(1, 24), -4);
        x.calls(1, 2);
        Due.due(21, "what he calls works too", x.cover(1, 6), 0);
        Due.due(21, "and what he calls more", x.cover(1, 7), 1);
        x.calls(0, 3);
        Due.due(21, "those of others are not free", x.cover(1, 17), -4);
        Due.due(21, "p -1", x.cover(-1, 0), -1);
        Due.due(21, "p 5", x.cover(5, 0), -1);
        Due.due(21, "v -1", x.cover(0, -1), -1);
        Due.due(21, "v 100", x.cover(0, 100), -1);
        Due.due(21, "v 99", x.cover(0, 99), -4);
        Due.due(21, "his own is dead behind 12", clock(7).cover(2, 0), -4);
        Due.due(21, "his own is dead behind 13", clock(8).cover(2, 0), 0);
        WhoeverNamesIt y = clock(0);
        Due.come(y, GOAT, 1, 0);
        Due.due(21, "the goat comes behind the lamb and is not fed", y.cover(2, 3), -4);
        WhoeverNamesIt z = clock(2);
        z.answers(0);
        Due.come(z, GOAT, 1, 0);
        z.calls(2, 0);
        Due.due(21, "the goat feeds both", z.cover(2, 3), -4);
        z.means(2, 3);
        Due.due(21, "the goat feeds both with one of means more", z.cover(2, 3), 2);
    }

    private static void letGo() {
        WhoeverNamesIt x = new WhoeverNamesIt();
        Due.come(x, GOAT, 1, 0);
        Due.come(x, WOLF, 1, 0);
        Due.come(x, WOLF, 1, 0);
        x.calls(0, 0);
        x.calls(0, 1);
        x.calls(0, 2);
        x.means(0, 8);
        Due.due(22, "n 0", x.letGo(0, 0), 0);
        Due.due(22, "n 4", x.letGo(0, 4), 0);
        Due.due(22, "n 5: 8, fed goat 9, fed wolf 3", x.letGo(0, 5), 2);
        x.means(0, 2);
        Due.due(22, "n 5 with less: the other wolf eats 6 on day 4", x.letGo(0, 5), 2);
        Due.due(22, "n 20 with less", x.letGo(0, 20), 6);
        x.means(0, 0);
        Due.due(22, "nothing to feed with", x.letGo(0, 20), 7);
        Due.due(22, "one who calls none", x.letGo(1, 20), 0);
        Due.due(22, "p -1", x.letGo(-1, 0), -1);
        Due.due(22, "p 5", x.letGo(5, 0), -1);
        Due.due(22, "n -1", x.letGo(0, -1), -1);
        Due.due(22, "n 21", x.letGo(0, 21), -1);
        Due.due(22, "dead behind 20", clock(15).letGo(2, 20), 1);
        Due.due(22, "dead behind 21", clock(16).letGo(2, 20), 0);
    }

    private static void stand() {
        WhoeverNamesIt x = new WhoeverNamesIt();
        x.tongue(2, POET);
        Due.come(x, BULL, 9, 13);
        Due.due(23, "where the bull is, 7 a day", x.stand(2, 3, 0), 13);
        Due.due(23, "means", x.stand(2, 3, 1), 61);
        Due.due(23, "n 0, the least place", x.stand(2, 0, 0), 0);
        Due.due(23, "n 0, means", x.stand(2, 0, 1), 40);
        Due.come(x, BULL, 9, 4);
        Due.due(23, "of two bulls the lesser place", x.stand(2, 3, 0), 4);
        Due.due(23, "n 20", x.stand(2, 20, 1), 180);
        Due.due(23, "p -1", x.stand(-1, 0, 0), -1);
        Due.due(23, "p 5", x.stand(5, 0, 0), -1);
        Due.due(23, "n -1", x.stand(0, -1, 0), -1);
        Due.due(23, "n 21", x.stand(0, 21, 0), -1);
        Due.due(23, "what -1", x.stand(0, 0, -1), -1);
        Due.due(23, "what 2", x.stand(0, 0, 2), -1);
    }

    private static void least() {
        WhoeverNamesIt x = clock(40);
        Due.due(24, "n 0", x.least(2, 0), 0);
        Due.due(24, "n 4", x.least(2, 4), 0);
        Due.due(24, "n 5", x.least(2, 5), 1);
        Due.due(24, "n 20", x.least(2, 20), 16);
        Due.due(24, "of one who calls none", x.least(1, 20), 0);
        Due.due(24, "p -1", x.least(-1, 0), -1);
        Due.due(24, "p 5", x.least(5, 0), -1);
        Due.due(24, "n -1", x.least(0, -1), -1);
        Due.due(24, "n 21", x.least(0, 21), -1);
        WhoeverNamesIt y = new WhoeverNamesIt();
        Due.come(y, WOLF, 0, 0);
        y.calls(3, 0);
        y.means(3, 999);
        Due.due(24, "a wolf, 9 days fed", y.least(3, 13), 54);
        Due.due(24, "a wolf, 10 days fed", y.least(3, 14), 60);
        Due.due(24, "a wolf, 11 days fed", y.least(3, 15), -4);
        Due.due(24, "means stay", y.person(3, 0), 999);
    }

    private static void exchange() {
        WhoeverNamesIt x = new WhoeverNamesIt();
        Due.come(x, LAMB, 9, 3);
        x.tongue(1, POET);
        x.means(1, 0);
        Due.due(25, "nobody dies in 4 days", x.exchange(4), -4);
        Due.due(25, "the poor one had best be silent", x.exchange(5), 1);
        x.tongue(0, POET);
        x.tongue(2, POET);
        Due.due(25, "the first who is silent", x.exchange(5), 13);
        x.tongue(3, POET);
        x.tongue(4, POET);
        Due.due(25, "all of one tongue", x.exchange(5), -4);
        Due.due(25, "n 0", x.exchange(0), -4);
        Due.due(25, "n 20", x.exchange(20), -4);
        Due.due(25, "n -1", x.exchange(-1), -1);
        Due.due(25, "n 21", x.exchange(21), -1);
    }

    private static void teach() {
        WhoeverNamesIt x = new WhoeverNamesIt();
        Due.come(x, GOAT, 9, 3);
        Due.due(26, "the poet calls at once", x.teach(1, 10, 0), POET);
        Due.due(26, "his means", x.teach(1, 10, 1), 50);
        Due.due(26, "n 0", x.teach(1, 0, 0), 0);
        Due.due(26, "n 0, means", x.teach(1, 0, 1), 40);
        Due.due(26, "n 30", x.teach(1, 30, 1), 70);
        x.days(5);
        Due.due(26, "the kind calls at once too", x.teach(1, 10, 0), KIND);
        Due.come(x, BULL, 9, 3);
        Due.come(x, LAMB, 9, 3);
        Due.come(x, LAMB, 9, 3);
        Due.due(26, "the proud has the bull alone", x.teach(1, 1, 0), PROUD);
        Due.due(26, "his means", x.teach(1, 1, 1), 47);
        Due.due(26, "one with nothing near", x.teach(4, 1, 0), 0);
        Due.due(26, "p -1", x.teach(-1, 0, 0), -1);
        Due.due(26, "p 5", x.teach(5, 0, 0), -1);
        Due.due(26, "n -1", x.teach(0, -1, 0), -1);
        Due.due(26, "n 31", x.teach(0, 31, 0), -1);
        Due.due(26, "what -1", x.teach(0, 0, -1), -1);
        Due.due(26, "what 2", x.teach(0, 0, 2), -1);
    }

    private static void of() {
        WhoeverNamesIt x = new WhoeverNamesIt();
        Due.due(27, "hungriest of none", x.of(4), -4);
        WhoeverNamesIt y = new WhoeverNamesIt();
        Due.come(y, LAMB, 9, 0);
        Due.come(y, LAMB, 9, 0);
        y.means(1, 41);
        Due.due(27, "richest, the second", y.of(0), 1);
        Due.due(27, "a pair with the first", y.of(3), 1);
        Due.due(27, "hungriest, the first", y.of(4), 0);
        Due.due(27, "richest, all alike", x.of(0), 0);
        Due.due(27, "loudest, all alike", x.of(1), 0);
        int gone = Due.dead(x, 0, GOAT, 4);
        Due.due(27, "hungriest, one dead", x.of(4), -4);
        Due.come(x, GOAT, 1, 7);
        Due.come(x, GOAT, 1, 7);
        Due.come(x, GOAT, 1, 7);
        Due.come(x, GOAT, 1, x.beast(gone, 2));
        x.means(3, 41);
        x.means(4, 41);
        Due.due(27, "richest, of two the least", x.of(0), 3);
        x.calls(2, 1);
        x.calls(4, 2);
        Due.due(27, "loudest, of two the least", x.of(1), 2);
        x.calls(4, 3);
        Due.due(27, "loudest", x.of(1), 4);
        Due.due(27, "free", x.of(2), 16);
        Due.due(27, "pairs of three", x.of(3), 3);
        Due.due(27, "hungriest, all alike", x.of(4), 1);
        x.days(1);
        Due.due(27, "hungriest", x.of(4), 4);
        Due.due(27, "what -1", x.of(-1), -1);
        Due.due(27, "what 5", x.of(5), -1);
    }

    private static void nearest() {
        WhoeverNamesIt x = new WhoeverNamesIt();
        Due.come(x, GOAT, 1, 7);
        Due.due(28, "at 7", x.nearest(0), 2);
        x.stands(0, 15);
        Due.due(28, "at 15", x.nearest(0), 4);
        x.stands(0, 11);
        Due.due(28, "at 11", x.nearest(0), 4);
        x.walks(0, 10);
        Due.due(28, "of two the least", x.nearest(0), 0);
        Due.due(28, "b -1", x.nearest(-1), -1);
        Due.due(28, "b 1", x.nearest(1), -1);
        Due.due(28, "one dead", x.nearest(Due.dead(x, 1, GOAT, 1)), -3);
    }

    /** What is asked of days on leaves all as it is. */
    private static void nothingOfItHappens() {
        WhoeverNamesIt x = clock(3);
        Due.come(x, GOAT, 0, 1);
        x.tongue(0, POET);
        x.name(0, 30, 0);
        x.cover(0, 3);
        x.letGo(2, 20);
        x.stand(0, 20, 0);
        x.least(2, 20);
        x.exchange(20);
        x.teach(0, 30, 0);
        x.beastThen(0, 60, 0);
        x.personThen(0, 60, 0);
        x.still();
        x.next(0);
        Due.due(13, "day", x.count(1), 0);
        Due.due(13, "place", x.beast(1, 2), 1);
        Due.due(22, "called", x.count(3), 1);
        Due.due(14, "means", x.person(2, 0), 3);
        Due.due(23, "place of 0", x.person(0, 1), 0);
        Due.due(26, "tongue of 0", x.person(0, 2), POET);
        Due.due(25, "tongue of 1", x.person(1, 2), 0);
        Due.due(24, "means of 2", x.person(2, 0), 3);
        Due.due(39, "no image comes of it", x.restore(), -3);
    }
}
