/** Promises 1 to 12: the mountain as told, and what a day does. Every number here is worked out by hand. */
public final class ToldTest {
    private static final int GOAT = 0;
    private static final int LAMB = 1;
    private static final int BULL = 2;
    private static final int MARE = 3;
    private static final int DOG = 4;
    private static final int WOLF = 5;
    private static final int ASS = 6;
    private static final int WHELP = 7;

    public static void main(String[] args) {
        newObject();
        textTold();
        textOfWrongForm();
        textThatCannotBe();
        textLeavesNothing();
        textRefused();
        beastBySort();
        beastWants();
        beastRefused();
        person();
        comes();
        standsAndWalks();
        callsAndAnswers();
        tongueAndMeans();
        daysGone();
        daysFed();
        daysSpoken();
        daysRefused();
        Due.end("ToldTest");
    }

    private static void newObject() {
        WhoeverNamesIt x = new WhoeverNamesIt();
        Due.due(1, "count(0)", x.count(0), 0);
        Due.due(1, "count(1)", x.count(1), 0);
        Due.due(1, "count(2)", x.count(2), 0);
        Due.due(1, "count(3)", x.count(3), 0);
        Due.due(1, "count(4)", x.count(4), 200);
        for (int p = 0; p < 5; p++) {
            Due.due(1, "means of " + p, x.person(p, 0), 40);
            Due.due(1, "place of " + p, x.person(p, 1), 3 * p);
            Due.due(1, "tongue of " + p, x.person(p, 2), 0);
            Due.due(1, "grief of " + p, x.person(p, 3), 0);
        }
        for (int d = 0; d < 8; d++) {
            Due.due(1, "cost(" + d + ") of nothing", x.cost(d), -11);
        }
        Due.due(1, "restore()", x.restore(), -3);
        WhoeverNamesIt other = new WhoeverNamesIt();
        Due.come(other, GOAT, 1, 1);
        Due.due(1, "a beast of another object", x.beast(0, 0), -1);
    }

    private static void textTold() {
        WhoeverNamesIt x = new WhoeverNamesIt();
        Due.due(2, "text of each letter", Due.tell(x, "b2315;p4311999;c40;b0100;g108;u0;d01;c21;"), 8);
        Due.due(2, "sort", x.beast(0, 0), BULL);
        Due.due(2, "figure", x.beast(0, 1), 3);
        Due.due(2, "place", x.beast(0, 2), 15);
        Due.due(2, "called by", x.beast(0, 4), -4);
        Due.due(2, "hunger", x.beast(0, 3), 1);
        Due.due(2, "g then a day", x.beast(1, 2), 9);
        Due.due(2, "c behind the day", x.beast(1, 4), 2);
        Due.due(2, "tongue", x.person(4, 2), 3);
        Due.due(2, "place of the person", x.person(4, 1), 11);
        Due.due(2, "means", x.person(4, 0), 999);
        Due.due(2, "day", x.count(1), 1);
        Due.due(2, "the same text again", x.mountain(6), 8);
        Due.due(2, "beasts", x.count(0), 4);
        Due.due(2, "grief is not told", Due.tell(x, "p0000000;"), 1);
        Due.due(2, "the most statements", Due.tell(x, "c00;u0;c00;u0;c00;u0;c00;u0;c00;u0;c00;u0;c00;u0;"), 14);
        Due.due(2, "d60", Due.tell(x, "d60;"), 1);
        Due.due(2, "day", x.count(1), 62);
        Due.due(2, "the row stays", x.element(6, 0), 'd');
        Due.due(2, "its end stays", x.element(6, 3), ';');
    }

    private static void textOfWrongForm() {
        WhoeverNamesIt x = new WhoeverNamesIt();
        Due.due(2, "empty", Due.tell(x, ""), -1000);
        Due.due(2, "no letter", Due.tell(x, "x"), -1000);
        Due.due(2, "large letter", Due.tell(x, "B0000;"), -1000);
        Due.due(2, "only ;", Due.tell(x, ";"), -1000);
        Due.due(2, "letter alone", Due.tell(x, "b"), -1001);
        Due.due(2, "sign for a digit", Due.tell(x, "b0/00;"), -1002);
        Due.due(2, "colon for a digit", Due.tell(x, "b00:0;"), -1003);
        Due.due(2, "b: ; too early", Due.tell(x, "b000;"), -1004);
        Due.due(2, "b: no ;", Due.tell(x, "b0000"), -1005);
        Due.due(2, "b: a digit more", Due.tell(x, "b00000;"), -1005);
        Due.due(2, "g: a digit more", Due.tell(x, "g0000;"), -1004);
        Due.due(2, "g: a digit less", Due.tell(x, "g00;"), -1003);
        Due.due(2, "p: a digit less", Due.tell(x, "p000000;"), -1007);
        Due.due(2, "p: a digit more", Due.tell(x, "p00000000;"), -1008);
        Due.due(2, "c: a digit less", Due.tell(x, "c0;"), -1002);
        Due.due(2, "c: a digit more", Due.tell(x, "c000;"), -1003);
        Due.due(2, "u: a digit less", Due.tell(x, "u;"), -1001);
        Due.due(2, "u: a digit more", Due.tell(x, "u00;"), -1002);
        Due.due(2, "d: a digit less", Due.tell(x, "d1;"), -1002);
        Due.due(2, "d: a digit more", Due.tell(x, "d001;"), -1003);
        Due.due(2, "a good one, then a bad letter", Due.tell(x, "d01;e01;"), -1004);
        Due.due(2, "a good one, then ;", Due.tell(x, "d01;;"), -1004);
        Due.due(2, "the end lacks", Due.tell(x, "d01;d0"), -1006);
        Due.due(2, "form is told ahead of what can't be", Due.tell(x, "d00;u9;x"), -1007);
        Due.fill(x, 6, 0, 'd', 256 + '0', '1', ';');
        Due.due(2, "lowest bits of what was put", x.mountain(6), 1);
        Due.fill(x, 6, 0, 'd', -80, '1', ';');
        Due.due(2, "a byte below 0", x.mountain(6), -1001);
        Due.due(2, "day", x.count(1), 1);
    }

    private static void textThatCannotBe() {
        WhoeverNamesIt x = new WhoeverNamesIt();
        Due.due(2, "sort 8", Due.tell(x, "b8000;"), -2000);
        Due.due(2, "place 16", Due.tell(x, "b0016;"), -2000);
        Due.due(2, "place 99", Due.tell(x, "b0099;"), -2000);
        Due.due(2, "sort 7, figure 9, place 15", Due.tell(x, "b7915;"), 1);
        Due.due(2, "g: no such beast", Due.tell(x, "g101;"), -2000);
        Due.due(2, "g: place 16", Due.tell(x, "g016;"), -2000);
        Due.due(2, "p: nobody 5", Due.tell(x, "p5000000;"), -2000);
        Due.due(2, "p: tongue 4", Due.tell(x, "p0400000;"), -2000);
        Due.due(2, "p: place 16", Due.tell(x, "p0016000;"), -2000);
        Due.due(2, "p: all of it at most", Due.tell(x, "p4315999;"), 1);
        Due.due(2, "c: nobody 5", Due.tell(x, "c50;"), -2000);
        Due.due(2, "c: no such beast", Due.tell(x, "c01;"), -2000);
        Due.due(2, "u: no such beast", Due.tell(x, "u1;"), -2000);
        Due.due(2, "u: by nobody already", Due.tell(x, "u0;"), -2000);
        Due.due(2, "u twice", Due.tell(x, "c00;u0;u0;"), -2007);
        Due.due(2, "c of one called", Due.tell(x, "c00;c10;c10;u0;"), 4);
        Due.due(2, "d00", Due.tell(x, "d01;d00;"), -2004);
        Due.due(2, "d61", Due.tell(x, "d61;"), -2000);
        Due.due(2, "d99", Due.tell(x, "d99;"), -2000);
        Due.due(2, "g of one that comes only later", Due.tell(x, "g101;b0000;"), -2000);
        Due.due(2, "g of one that came", Due.tell(x, "b0000;g101;"), 2);
        Due.due(2, "no room for a tenth", Due.tell(x, "b0000;b0000;b0000;b0000;b0000;b0000;b0000;b0000;"), -2042);
        Due.due(2, "nine", Due.tell(x, "b0000;b0000;b0000;b0000;b0000;b0000;b0000;"), 7);
        Due.due(2, "no room", Due.tell(x, "b0000;"), -2000);
        Due.due(2, "a number out of range, without room", Due.tell(x, "b9000;"), -2000);
        dying(new WhoeverNamesIt());
        lastDays(new WhoeverNamesIt());
    }

    private static void dying(WhoeverNamesIt x) {
        Due.dead(x, 0, GOAT, 0);
        Due.due(2, "dead", x.beast(0, 5), 0);
        Due.due(2, "g of one dead", Due.tell(x, "g000;"), -2000);
        Due.due(2, "c of one dead", Due.tell(x, "c00;"), -2000);
        Due.due(2, "u of one dead", Due.tell(x, "u0;"), -2000);
        Due.due(2, "one that dies in the text", Due.tell(x, "b0000;p0000000;c01;d04;c01;d01;c01;"), -2031);
    }

    private static void lastDays(WhoeverNamesIt x) {
        for (int i = 0; i < 16; i++) {
            x.days(60);
        }
        Due.due(2, "day", x.count(1), 960);
        Due.due(2, "40 days from 960", Due.tell(x, "d40;"), -2000);
        Due.due(2, "39 and 1", Due.tell(x, "d39;d01;"), -2004);
        Due.due(2, "nothing came", x.count(1), 960);
        Due.due(2, "39", Due.tell(x, "d39;"), 1);
        Due.due(2, "day", x.count(1), 999);
    }

    private static void textLeavesNothing() {
        WhoeverNamesIt x = new WhoeverNamesIt();
        Due.due(2, "one is there", Due.tell(x, "b0003;"), 1);
        Due.due(2, "a fault at the end", Due.tell(x, "b1104;g009;p1203777;c10;d02;u0;u0;"), -2031);
        Due.due(2, "beasts", x.count(0), 1);
        Due.due(2, "place", x.beast(0, 2), 3);
        Due.due(2, "means", x.person(1, 0), 40);
        Due.due(2, "tongue", x.person(1, 2), 0);
        Due.due(2, "called", x.count(3), 0);
        Due.due(2, "day", x.count(1), 0);
        Due.due(2, "hunger", x.beast(0, 3), 0);
        Due.due(2, "wrong form at the end", Due.tell(x, "g009;d02;d02"), -1012);
        Due.due(2, "place", x.beast(0, 2), 3);
        Due.due(2, "p with a bad place changes no tongue", Due.tell(x, "p1316000;"), -2000);
        Due.due(2, "tongue", x.person(1, 2), 0);
    }

    private static void textRefused() {
        WhoeverNamesIt x = new WhoeverNamesIt();
        Due.due(2, "mountain(-1)", x.mountain(-1), -1);
        Due.due(2, "mountain(8)", x.mountain(8), -1);
        Due.due(2, "mountain(0) of nothing", x.mountain(0), -11);
        x.keep(0, 1, GOAT, 1);
        Due.due(2, "mountain(0) of a goat", x.mountain(0), -12);
        Due.fill(x, 0, 1, 'd', '0', '1', ';');
        Due.due(2, "mountain(0) of shorts", x.mountain(0), -12);
        Due.fill(x, 0, 2, 'd', '0', '1', ';');
        Due.due(2, "mountain(0) of ints", x.mountain(0), -12);
        Due.fill(x, 7, 0, 'd', '0', '1', ';');
        Due.due(2, "mountain(7) of bytes", x.mountain(7), 1);
    }

    private static void beastBySort() {
        int[] needWithFour = {2, 1, 6, 5, 3, 6, 2, 7};
        int[] workWithFour = {3, 0, 8, 10, 1, 0, 9, 0};
        int[] needWithNone = {2, 1, 2, 1, 3, 6, 0, 7};
        int[] workWithNone = {3, 0, 0, 2, 1, 0, 1, 0};
        for (int sort = 0; sort < 8; sort++) {
            WhoeverNamesIt x = new WhoeverNamesIt();
            Due.due(5, "the first", Due.come(x, sort, 4, 8), 0);
            Due.due(5, "the second", Due.come(x, sort, 0, 15), 1);
            Due.due(3, "sort " + sort, x.beast(0, 0), sort);
            Due.due(3, "figure of sort " + sort, x.beast(0, 1), 4);
            Due.due(3, "place of sort " + sort, x.beast(0, 2), 8);
            Due.due(3, "hunger of sort " + sort, x.beast(0, 3), 0);
            Due.due(3, "caller of sort " + sort, x.beast(0, 4), -4);
            Due.due(3, "alive, sort " + sort, x.beast(0, 5), 1);
            Due.due(3, "need of sort " + sort, x.beast(0, 6), needWithFour[sort]);
            Due.due(3, "work of sort " + sort, x.beast(0, 7), workWithFour[sort]);
            Due.due(3, "need without figure of sort " + sort, x.beast(1, 6), needWithNone[sort]);
            Due.due(3, "work without figure of sort " + sort, x.beast(1, 7), workWithNone[sort]);
        }
    }

    private static void wants(WhoeverNamesIt x, int b, String who, int place) {
        Due.due(3, who + " wants", x.beast(b, 8), place);
    }

    private static void beastWants() {
        WhoeverNamesIt x = new WhoeverNamesIt();
        wants(x, Due.come(x, GOAT, 4, 2), "goat", 3);
        wants(x, Due.come(x, GOAT, 4, 15), "goat at the end", 12);
        x.walks(1, 4);
        wants(x, 0, "goat between two", 0);
        int lamb = Due.come(x, LAMB, 0, 5);
        wants(x, lamb, "lamb on day 1", -4);
        int bull = Due.come(x, BULL, 2, 10);
        wants(x, bull, "bull without hunger", -4);
        wants(x, Due.come(x, BULL, 0, 10), "bull without figure", 9);
        int mare = Due.come(x, MARE, 3, 10);
        wants(x, mare, "mare, all as rich", 0);
        int ass = Due.come(x, ASS, 3, 10);
        wants(x, ass, "ass of even hunger", 0);
        x.means(3, 41);
        wants(x, mare, "mare, one richer", 9);
        wants(x, ass, "ass, one richer", 9);
        x.days(1);
        wants(x, lamb, "lamb on day 2", 4);
        wants(x, ass, "ass of odd hunger", -4);
        wants(x, bull, "bull of hunger below its figure", -4);
        x.days(1);
        wants(x, lamb, "lamb on day 3", -4);
        wants(x, bull, "bull of hunger as its figure", 9);
        wants(x, ass, "ass of even hunger again", 9);
        wantsOfDogs(new WhoeverNamesIt());
        wantsOfWolves(new WhoeverNamesIt());
    }

    private static void wantsOfDogs(WhoeverNamesIt x) {
        int dog = Due.come(x, DOG, 3, 5);
        wants(x, dog, "dog of nobody", 6);
        x.calls(4, dog);
        wants(x, dog, "dog of 4", 12);
        x.walks(4, 1);
        wants(x, dog, "dog of 4 who walked", 1);
        x.answers(dog);
        wants(x, dog, "dog of nobody again", 6);
        int gone = Due.dead(x, 0, DOG, 8);
        wants(x, gone, "one dead", -4);
        int lamb = Due.come(x, LAMB, 9, 1);
        x.days(5);
        wants(x, lamb, "lamb of figure 9 on day 11", 1);
    }

    private static void wantsOfWolves(WhoeverNamesIt x) {
        int wolf = Due.come(x, WOLF, 3, 7);
        int whelp = Due.come(x, WHELP, 3, 7);
        wants(x, wolf, "wolf, the nearest below", 15);
        wants(x, whelp, "whelp, the nearest below", 15);
        x.stands(wolf, 6);
        wants(x, wolf, "wolf, the nearest here", 15);
        x.stands(wolf, 5);
        x.stands(whelp, 5);
        wants(x, wolf, "wolf, the nearest above", 0);
        wants(x, whelp, "whelp, the nearest above", 0);
        x.walks(1, 4);
        wants(x, wolf, "wolf between two, the lesser number below", 15);
        x.walks(1, 6);
        x.walks(2, 4);
        wants(x, wolf, "wolf between two, the lesser number above", 0);
        x.calls(3, wolf);
        x.calls(3, whelp);
        wants(x, wolf, "wolf called by 3", 0);
        wants(x, whelp, "whelp called by 3", 9);
    }

    private static void beastRefused() {
        WhoeverNamesIt x = new WhoeverNamesIt();
        Due.due(3, "beast(0, 0) of none", x.beast(0, 0), -1);
        Due.come(x, GOAT, 1, 1);
        Due.due(3, "beast(-1, 0)", x.beast(-1, 0), -1);
        Due.due(3, "beast(1, 0)", x.beast(1, 0), -1);
        Due.due(3, "beast(9, 0)", x.beast(9, 0), -1);
        Due.due(3, "beast(0, -1)", x.beast(0, -1), -1);
        Due.due(3, "beast(0, 9)", x.beast(0, 9), -1);
        Due.due(3, "beast of the greatest", x.beast(Integer.MAX_VALUE, Integer.MAX_VALUE), -1);
        Due.due(3, "beast of the least", x.beast(Integer.MIN_VALUE, Integer.MIN_VALUE), -1);
        int gone = Due.dead(x, 0, MARE, 8);
        Due.due(3, "hunger of one dead", x.beast(gone, 3), 9);
        Due.due(3, "caller of one dead", x.beast(gone, 4), -4);
        Due.due(3, "alive of one dead", x.beast(gone, 5), 0);
        Due.due(3, "need of one dead", x.beast(gone, 6), 2);
        Due.due(3, "work of one dead", x.beast(gone, 7), 4);
    }

    private static void person() {
        WhoeverNamesIt x = new WhoeverNamesIt();
        Due.come(x, GOAT, 1, 1);
        Due.come(x, BULL, 5, 1);
        Due.come(x, WHELP, 5, 1);
        x.calls(2, 0);
        x.calls(2, 1);
        x.calls(3, 2);
        x.means(2, 17);
        x.walks(2, 15);
        x.tongue(2, 2);
        Due.due(4, "means", x.person(2, 0), 17);
        Due.due(4, "place", x.person(2, 1), 15);
        Due.due(4, "tongue", x.person(2, 2), 2);
        Due.due(4, "grief", x.person(2, 3), 0);
        Due.due(4, "beasts", x.person(2, 4), 3);
        Due.due(4, "need together", x.person(2, 5), 9);
        Due.due(4, "work together", x.person(2, 6), 13);
        Due.due(4, "beasts of another", x.person(3, 4), 4);
        Due.due(4, "beasts of one without", x.person(0, 4), 0);
        Due.due(4, "need of one without", x.person(0, 5), 0);
        Due.due(4, "work of one without", x.person(0, 6), 0);
        Due.due(4, "person(-1, 0)", x.person(-1, 0), -1);
        Due.due(4, "person(5, 0)", x.person(5, 0), -1);
        Due.due(4, "person(0, -1)", x.person(0, -1), -1);
        Due.due(4, "person(0, 7)", x.person(0, 7), -1);
        Due.dead(x, 3, GOAT, 3);
        Due.due(4, "grief of two", x.person(3, 3), 2);
        Due.due(4, "those dead are not called", x.person(3, 4), 0);
    }

    private static void comes() {
        WhoeverNamesIt x = new WhoeverNamesIt();
        x.keep(5, 1, ASS, 9);
        for (int b = 0; b < 9; b++) {
            Due.due(5, "comes, number " + b, x.comes(5, b), b);
        }
        Due.due(5, "figure", x.beast(8, 1), 9);
        Due.due(5, "place", x.beast(8, 2), 8);
        Due.due(5, "alive", x.count(2), 511);
        Due.due(5, "no room", x.comes(5, 0), -2);
        Due.due(5, "the shelf keeps it", x.cost(5), 24);
        Due.due(5, "comes(-1, 0)", x.comes(-1, 0), -1);
        Due.due(5, "comes(8, 0)", x.comes(8, 0), -1);
        Due.due(5, "place -1", x.comes(5, -1), -1);
        Due.due(5, "place 16", x.comes(5, 16), -1);
        Due.due(5, "nothing there", x.comes(0, 0), -11);
        x.row(0, 0, 3);
        Due.due(5, "a row there", x.comes(0, 0), -12);
        Due.due(5, "nothing there and place 16", x.comes(1, 16), -1);
        Due.due(5, "still nine", x.count(0), 9);
    }

    private static void standsAndWalks() {
        WhoeverNamesIt x = new WhoeverNamesIt();
        Due.come(x, GOAT, 1, 4);
        Due.due(6, "stands(0, 15)", x.stands(0, 15), 4);
        Due.due(6, "stands(0, 0)", x.stands(0, 0), 15);
        Due.due(6, "place", x.beast(0, 2), 0);
        Due.due(6, "stands(0, 16)", x.stands(0, 16), -1);
        Due.due(6, "stands(0, -1)", x.stands(0, -1), -1);
        Due.due(6, "stands(1, 0)", x.stands(1, 0), -1);
        Due.due(6, "stands(-1, 0)", x.stands(-1, 0), -1);
        int gone = Due.dead(x, 0, GOAT, 5);
        int where = x.beast(gone, 2);
        Due.due(6, "stands of one dead", x.stands(gone, 9), -3);
        Due.due(6, "one dead, no such place", x.stands(gone, 16), -1);
        Due.due(6, "one dead stays", x.beast(gone, 2), where);
        Due.due(7, "walks(4, 15)", x.walks(4, 15), 12);
        Due.due(7, "walks(4, 0)", x.walks(4, 0), 15);
        Due.due(7, "place", x.person(4, 1), 0);
        Due.due(7, "walks(4, 16)", x.walks(4, 16), -1);
        Due.due(7, "walks(4, -1)", x.walks(4, -1), -1);
        Due.due(7, "walks(5, 0)", x.walks(5, 0), -1);
        Due.due(7, "walks(-1, 0)", x.walks(-1, 0), -1);
        Due.due(7, "nothing changed", x.person(4, 1), 0);
    }

    private static void callsAndAnswers() {
        WhoeverNamesIt x = new WhoeverNamesIt();
        Due.come(x, GOAT, 1, 4);
        Due.due(8, "calls(0, 0)", x.calls(0, 0), -4);
        Due.due(8, "calls(4, 0)", x.calls(4, 0), 0);
        Due.due(8, "calls(4, 0) again", x.calls(4, 0), 4);
        Due.due(8, "called by", x.beast(0, 4), 4);
        Due.due(8, "calls(5, 0)", x.calls(5, 0), -1);
        Due.due(8, "calls(-1, 0)", x.calls(-1, 0), -1);
        Due.due(8, "calls(0, 1)", x.calls(0, 1), -1);
        Due.due(8, "calls(0, -1)", x.calls(0, -1), -1);
        Due.due(8, "hunger stays", x.beast(0, 3), 0);
        Due.due(9, "answers(0)", x.answers(0), 4);
        Due.due(9, "called by", x.beast(0, 4), -4);
        Due.due(9, "answers(0) again", x.answers(0), -3);
        Due.due(9, "answers(1)", x.answers(1), -1);
        Due.due(9, "answers(-1)", x.answers(-1), -1);
        int gone = Due.dead(x, 0, GOAT, 5);
        Due.due(8, "calls one dead", x.calls(1, gone), -3);
        Due.due(8, "nobody of that number calls one dead", x.calls(5, gone), -1);
        Due.due(9, "one dead answers", x.answers(gone), -3);
        Due.due(9, "called by", x.beast(gone, 4), -4);
    }

    private static void tongueAndMeans() {
        WhoeverNamesIt x = new WhoeverNamesIt();
        Due.due(10, "tongue(1, 3)", x.tongue(1, 3), 0);
        Due.due(10, "tongue(1, 0)", x.tongue(1, 0), 3);
        Due.due(10, "tongue(1, 4)", x.tongue(1, 4), -1);
        Due.due(10, "tongue(1, -1)", x.tongue(1, -1), -1);
        Due.due(10, "tongue(5, 0)", x.tongue(5, 0), -1);
        Due.due(10, "tongue(-1, 0)", x.tongue(-1, 0), -1);
        Due.due(10, "nothing changed", x.person(1, 2), 0);
        Due.due(11, "means(1, 999)", x.means(1, 999), 40);
        Due.due(11, "means(1, 0)", x.means(1, 0), 999);
        Due.due(11, "means(1, 1000)", x.means(1, 1000), -1);
        Due.due(11, "means(1, -1)", x.means(1, -1), -1);
        Due.due(11, "means(5, 0)", x.means(5, 0), -1);
        Due.due(11, "means(-1, 0)", x.means(-1, 0), -1);
        Due.due(11, "nothing changed", x.person(1, 0), 0);
    }

    private static void daysGone() {
        WhoeverNamesIt x = new WhoeverNamesIt();
        Due.come(x, GOAT, 4, 4);
        Due.come(x, LAMB, 1, 5);
        Due.come(x, WOLF, 1, 14);
        Due.come(x, DOG, 1, 0);
        x.calls(4, 3);
        Due.due(12, "days(2)", x.days(2), 4);
        Due.due(12, "goat came and stays", x.beast(0, 2), 3);
        Due.due(12, "lamb waits for day 3", x.beast(1, 2), 5);
        Due.due(12, "wolf at the end stays", x.beast(2, 2), 15);
        Due.due(12, "dog goes to who called it", x.beast(3, 2), 2);
        x.days(1);
        Due.due(12, "lamb goes on day 3", x.beast(1, 2), 6);
        Due.due(12, "day", x.count(1), 3);
        Due.due(12, "days(60), the dog ate 4 poor and died", x.days(60), 3);
        Due.due(12, "day", x.count(1), 63);
        Due.due(12, "hunger is 9 at most, and nobody free dies", x.beast(0, 3), 9);
    }

    private static void daysFed() {
        WhoeverNamesIt x = new WhoeverNamesIt();
        Due.come(x, LAMB, 9, 0);
        Due.come(x, LAMB, 9, 0);
        Due.come(x, GOAT, 9, 3);
        x.calls(0, 0);
        x.calls(0, 1);
        x.calls(1, 2);
        x.means(0, 1);
        x.means(1, 999);
        x.days(1);
        Due.due(12, "means just of its need", x.person(0, 0), 0);
        Due.due(12, "the first is fed", x.beast(0, 3), 0);
        Due.due(12, "the second starves", x.beast(1, 3), 2);
        Due.due(12, "999 at most", x.person(1, 0), 999);
        x.means(1, 2);
        x.days(1);
        Due.due(12, "need less, work more", x.person(1, 0), 3);
        Due.due(12, "hunger 2", x.beast(0, 3), 2);
        Due.due(12, "hunger 4", x.beast(1, 3), 4);
        x.means(1, 1);
        Due.due(12, "days(3)", x.days(3), 2);
        Due.due(12, "hunger 8", x.beast(0, 3), 8);
        Due.due(12, "at 9 it is dead", x.beast(1, 5), 0);
        Due.due(12, "hunger 9", x.beast(1, 3), 9);
        Due.due(12, "by nobody", x.beast(1, 4), -4);
        Due.due(12, "grief", x.person(0, 3), 1);
        Due.due(12, "goat starves behind its work", x.beast(2, 3), 6);
        x.means(0, 1);
        x.days(1);
        Due.due(12, "fed at last", x.beast(0, 3), 0);
        Due.due(12, "one dead takes nothing", x.person(0, 0), 0);
        griefAtMost(new WhoeverNamesIt());
    }

    /** Nine at once are dead behind five days; an image brings no grief back, so it can't be reached by restoring. */
    private static void griefAtMost(WhoeverNamesIt x) {
        for (int b = 0; b < 9; b++) {
            Due.come(x, LAMB, 9, 0);
            x.calls(2, b);
        }
        x.means(2, 0);
        Due.due(12, "nine starve", x.days(4), 9);
        Due.due(12, "nine are dead", x.days(1), 0);
        Due.due(12, "grief of nine", x.person(2, 3), 9);
    }

    private static void daysSpoken() {
        WhoeverNamesIt x = new WhoeverNamesIt();
        Due.come(x, GOAT, 4, 3);
        Due.come(x, GOAT, 4, 3);
        Due.come(x, BULL, 2, 6);
        Due.come(x, BULL, 1, 6);
        Due.come(x, MARE, 3, 0);
        Due.come(x, MARE, 3, 0);
        Due.come(x, LAMB, 9, 9);
        Due.come(x, LAMB, 9, 9);
        Due.come(x, LAMB, 9, 10);
        x.tongue(0, 2);
        x.tongue(1, 1);
        x.tongue(2, 2);
        x.tongue(3, 3);
        x.means(0, 100);
        x.days(1);
        Due.due(12, "the proud calls the least of most work", x.person(0, 4), 16);
        Due.due(12, "the kind waits", x.person(1, 4), 0);
        Due.due(12, "the proud calls work 4", x.person(2, 4), 4);
        Due.due(12, "the poet calls all there", x.person(3, 4), 64 + 128);
        Due.due(12, "the silent calls nothing", x.person(4, 4), 0);
        x.days(1);
        Due.due(12, "the proud, the second day", x.person(0, 4), 16 + 32);
        Due.due(12, "the proud leaves work 2", x.person(2, 4), 4);
        x.days(3);
        Due.due(12, "the kind waits for hunger 5", x.person(1, 4), 0);
        x.days(1);
        Due.due(12, "the kind calls one", x.person(1, 4), 1);
        Due.due(12, "it is fed on that day", x.beast(0, 3), 0);
        x.days(1);
        Due.due(12, "the kind calls the other", x.person(1, 4), 3);
        twoSpeakAtOnePlace(new WhoeverNamesIt());
    }

    private static void twoSpeakAtOnePlace(WhoeverNamesIt x) {
        Due.come(x, MARE, 3, 5);
        Due.come(x, MARE, 4, 5);
        Due.come(x, GOAT, 4, 5);
        x.walks(1, 5);
        x.walks(2, 5);
        x.walks(3, 5);
        x.means(3, 100);
        x.tongue(1, 2);
        x.tongue(2, 2);
        x.tongue(3, 3);
        x.days(1);
        Due.due(12, "the first has the most work", x.person(1, 4), 2);
        Due.due(12, "the second has what is left", x.person(2, 4), 1);
        Due.due(12, "the poet has the rest", x.person(3, 4), 4);
    }

    private static void daysRefused() {
        WhoeverNamesIt x = new WhoeverNamesIt();
        Due.due(12, "days(0)", x.days(0), -1);
        Due.due(12, "days(61)", x.days(61), -1);
        Due.due(12, "days(-5)", x.days(-5), -1);
        Due.due(12, "days of the greatest", x.days(Integer.MAX_VALUE), -1);
        for (int i = 0; i < 16; i++) {
            Due.due(12, "days(60)", x.days(60), 0);
        }
        Due.due(12, "days(40) from 960", x.days(40), -3);
        Due.due(12, "days(61) from 960", x.days(61), -1);
        Due.due(12, "none of them went", x.count(1), 960);
        Due.due(12, "days(39) from 960", x.days(39), 0);
        Due.due(12, "day", x.count(1), 999);
        Due.due(12, "days(1) from 999", x.days(1), -3);
    }
}
