/**
 * THE TEXT of a MOUNTAIN at its edges: each byte of each STATEMENT that lacks or is another; each number just in its
 * range and just beyond it; what each STATEMENT asks of what those ahead of it made. Above each method its sentence.
 */
public final class EdgeTextTest {
    /** One of each letter, one behind the other; none of them has a fault. */
    private static final String[] GOOD = {"b0512;", "g007;", "p3214123;", "c30;", "u0;", "d02;"};

    public static void main(String[] args) {
        oneAtLeast();
        everyByteThatLacks();
        everyByteThatIsAnother();
        signsBesideTheRight();
        aHundredBytes();
        moreBehindTheText();
        formAheadOfAll();
        beastComes();
        beastIsThere();
        allOfOnePerson();
        calledAndFree();
        days();
        daysAboveTheLast();
        oneDead();
        noRoom();
        eachOnThoseAhead();
        theFirstThatCannotBe();
        withOneNothing();
        rowStays();
        refused();
        Due.end("EdgeTextTest");
    }

    private static int told(String text) {
        return Due.tell(new WhoeverNamesIt(), text);
    }

    /** What the text answers on a mountain with one beast, a goat at 5. */
    private static int toldOfOne(String text) {
        WhoeverNamesIt x = new WhoeverNamesIt();
        Due.come(x, 0, 1, 5);
        return Due.tell(x, text);
    }

    private static String many(String text, int times) {
        StringBuilder all = new StringBuilder();
        for (int i = 0; i < times; i++) {
            all.append(text);
        }
        return all.toString();
    }

    /** "STATEMENTS, each with ";" behind, one at least". */
    private static void oneAtLeast() {
        Due.due(2, "none", told(""), -1000);
        Due.due(2, "one", told("d01;"), 1);
        Due.due(2, "one without ;", told("d01"), -1003);
        Due.due(2, "two, the second without ;", told("d01;d01"), -1007);
        Due.due(2, "; alone", told(";"), -1000);
        Due.due(2, "; behind ;", told("d01;;"), -1004);
        Due.due(2, "; ahead", told(";d01;"), -1000);
    }

    /** "the place of the first byte with which no MOUNTAIN can go on (the end, if something lacks): -1000 less the place". */
    private static void everyByteThatLacks() {
        String text = String.join("", GOOD);
        int statements = 0;
        int end = GOOD[0].length();
        for (int length = 1; length <= text.length(); length++) {
            boolean whole = length == end;
            if (whole) {
                statements++;
                end += statements < GOOD.length ? GOOD[statements].length() : 0;
            }
            Due.due(2, "the first " + length + " bytes", told(text.substring(0, length)),
                whole ? statements : -1000 - length);
        }
        Due.due(2, "all were tried", statements, 6);
    }

    /** Each byte in the place of each: what is no letter, no digit, no ";" there, its neighbours among the signs first. */
    private static void everyByteThatIsAnother() {
        String text = String.join("", GOOD);
        for (int at = 0; at < text.length(); at++) {
            char was = text.charAt(at);
            boolean digit = was >= '0' && was <= '9';
            String others = was == ';' ? ":<09bd\0" : digit ? "/:;bd\0" : "aefhoqtvBGPCUD0;\0";
            for (int i = 0; i < others.length(); i++) {
                String wrong = text.substring(0, at) + others.charAt(i) + text.substring(at + 1);
                Due.due(2, "sign " + (int) others.charAt(i) + " at " + at, told(wrong), -1000 - at);
            }
        }
    }

    /** Bytes keep the lowest bits, and those below 0 are no signs of a text. */
    private static void signsBesideTheRight() {
        WhoeverNamesIt x = new WhoeverNamesIt();
        Due.fill(x, 0, 0, 'd', '0', '1', ';' - 256);
        Due.due(2, "; less 256", x.mountain(0), 1);
        Due.fill(x, 0, 0, 'd', '0', '1', ';' + 128);
        Due.due(2, "; and 128", x.mountain(0), -1003);
        Due.fill(x, 0, 0, 'd' + 128, '0', '1', ';');
        Due.due(2, "d and 128", x.mountain(0), -1000);
        Due.fill(x, 0, 0, 'd', '0' + 128, '1', ';');
        Due.due(2, "0 and 128", x.mountain(0), -1001);
        Due.fill(x, 0, 0, 'd', '0', -1, ';');
        Due.due(2, "-1", x.mountain(0), -1002);
        Due.due(2, "day", x.count(1), 1);
    }

    /** A ROW has 100 elements at most: a text that fills it, and one that is at its end there. */
    private static void aHundredBytes() {
        Due.due(2, "25 statements of 4", told(many("d01;", 25)), 25);
        Due.due(2, "a full row with a kind 2", toldOfOne("c00;" + many("u0;", 32)), -2007);
        Due.due(2, "the hundredth is another", told(many("d01;", 24) + "d010"), -1099);
        Due.due(2, "the hundredth is the last of a statement that lacks its end", told(many("p0000000;", 11) + "u"), -1100);
        Due.due(2, "99 bytes", told(many("p0000000;", 11)), 11);
        Due.due(2, "most statements", toldOfOne(many("c00;u0;", 14)), 28);
    }

    /** What is behind the text in the ROW, 0 at first, is a byte with which no MOUNTAIN can go on. */
    private static void moreBehindTheText() {
        WhoeverNamesIt x = new WhoeverNamesIt();
        x.row(0, 0, 100);
        x.put(0, 0, 'd');
        x.put(0, 1, '0');
        x.put(0, 2, '1');
        Due.due(2, "no ;", x.mountain(0), -1003);
        x.put(0, 3, ';');
        Due.due(2, "96 times 0 behind", x.mountain(0), -1004);
        x.row(0, 0, 100);
        Due.due(2, "100 times 0", x.mountain(0), -1000);
        Due.due(2, "day", x.count(1), 0);
    }

    /** "FAULT: kind 1 ..; else kind 2 ..". */
    private static void formAheadOfAll() {
        Due.due(2, "kind 1 behind a kind 2", told("b9000;d0"), -1008);
        Due.due(2, "kind 1 in the same statement", told("b90;0;"), -1003);
        Due.due(2, "digits out of range are of right form", told("b9999;"), -2000);
        Due.due(2, "the end lacks behind a kind 2", told("d00;u9;c99"), -1010);
    }

    /** ""b" SORT, FIGURE (a digit each), PLACE (2 digits): a BEAST more". */
    private static void beastComes() {
        for (int digit = 0; digit <= 9; digit++) {
            Due.due(2, "sort " + digit, told("b" + digit + "000;"), digit <= 7 ? 1 : -2000);
            Due.due(2, "figure " + digit, told("b0" + digit + "00;"), 1);
        }
        for (int place = 0; place <= 99; place++) {
            String digits = "" + place / 10 + place % 10;
            Due.due(2, "b, place " + digits, told("b00" + digits + ";"), place <= 15 ? 1 : -2000);
        }
        WhoeverNamesIt x = new WhoeverNamesIt();
        Due.tell(x, "b7915;b0000;");
        Due.due(2, "sort", x.beast(0, 0), 7);
        Due.due(2, "figure", x.beast(0, 1), 9);
        Due.due(2, "place", x.beast(0, 2), 15);
        Due.due(2, "sort 0", x.beast(1, 0), 0);
        Due.due(2, "figure 0", x.beast(1, 1), 0);
        Due.due(2, "place 0", x.beast(1, 2), 0);
        Due.due(2, "hunger", x.beast(1, 3), 0);
        Due.due(2, "by nobody", x.beast(1, 4), -4);
    }

    /** ""g" a BEAST (a digit), PLACE (2 digits): it is there". */
    private static void beastIsThere() {
        for (int digit = 0; digit <= 9; digit++) {
            Due.due(2, "g, beast " + digit, toldOfOne("g" + digit + "00;"), digit == 0 ? 1 : -2000);
        }
        for (int place = 0; place <= 99; place++) {
            String digits = "" + place / 10 + place % 10;
            Due.due(2, "g, place " + digits, toldOfOne("g0" + digits + ";"), place <= 15 ? 1 : -2000);
        }
    }

    /** ""p" one of PEOPLE, a TONGUE (a digit each), PLACE (2 digits), MEANS (3 digits): all these of him". */
    private static void allOfOnePerson() {
        for (int digit = 0; digit <= 9; digit++) {
            Due.due(2, "p, person " + digit, told("p" + digit + "000000;"), digit <= 4 ? 1 : -2000);
            Due.due(2, "p, tongue " + digit, told("p0" + digit + "00000;"), digit <= 3 ? 1 : -2000);
        }
        for (int place = 0; place <= 99; place++) {
            String digits = "" + place / 10 + place % 10;
            Due.due(2, "p, place " + digits, told("p00" + digits + "000;"), place <= 15 ? 1 : -2000);
        }
        WhoeverNamesIt x = new WhoeverNamesIt();
        Due.due(2, "the most of all, then the least", Due.tell(x, "p4315999;p0000000;p1101001;"), 3);
        Due.due(2, "tongue 3", x.person(4, 2), 3);
        Due.due(2, "place 15", x.person(4, 1), 15);
        Due.due(2, "means 999", x.person(4, 0), 999);
        Due.due(2, "means 0", x.person(0, 0), 0);
        Due.due(2, "tongue 1", x.person(1, 2), 1);
        Due.due(2, "place 1", x.person(1, 1), 1);
        Due.due(2, "means 1", x.person(1, 0), 1);
        Due.due(2, "who is not told of", x.person(2, 0), 40);
    }

    /** ""c" one of PEOPLE, a BEAST (a digit each)", ""u" a BEAST (a digit)", "one CALLED by nobody already ("u")". */
    private static void calledAndFree() {
        for (int digit = 0; digit <= 9; digit++) {
            Due.due(2, "c, person " + digit, toldOfOne("c" + digit + "0;"), digit <= 4 ? 1 : -2000);
            Due.due(2, "c, beast " + digit, toldOfOne("c0" + digit + ";"), digit == 0 ? 1 : -2000);
            Due.due(2, "u, beast " + digit, toldOfOne("c00;u" + digit + ";"), digit == 0 ? 2 : -2004);
        }
        Due.due(2, "one of nobody", toldOfOne("u0;"), -2000);
        Due.due(2, "one of nobody by now", toldOfOne("c40;u0;u0;"), -2007);
        Due.due(2, "one called already", toldOfOne("c40;c40;c10;"), 3);
    }

    /** ""d" DAYS (2 digits, 1 .. 60)". */
    private static void days() {
        for (int n = 0; n <= 99; n++) {
            WhoeverNamesIt x = new WhoeverNamesIt();
            Due.due(2, "d, days " + n, Due.tell(x, "d" + n / 10 + n % 10 + ";"), n >= 1 && n <= 60 ? 1 : -2000);
            Due.due(2, "the day then", x.count(1), n >= 1 && n <= 60 ? n : 0);
        }
    }

    /** "DAY above 999", "days() is refused (-3; in THE TEXT kind 2), if DAY and n together are above 999". */
    private static void daysAboveTheLast() {
        WhoeverNamesIt x = new WhoeverNamesIt();
        Due.due(2, "16 times 60", Due.tell(x, many("d60;", 16)), 16);
        Due.due(2, "960 and 40", Due.tell(x, "d40;"), -2000);
        Due.due(2, "960 and 30, and 10", Due.tell(x, "d30;d10;"), -2004);
        Due.due(12, "days(40)", x.days(40), -3);
        Due.due(2, "none of them went", x.count(1), 960);
        Due.due(2, "960 and 39", Due.tell(x, "d39;"), 1);
        Due.due(2, "999 and 1", Due.tell(x, "d01;"), -2000);
        Due.due(12, "days(1)", x.days(1), -3);
        Due.due(2, "day", x.count(1), 999);
        Due.due(2, "without days it goes on", Due.tell(x, "b0000;g015;"), 2);
        Due.due(2, "17 times 60 at once", told(many("d60;", 17)), -2064);
    }

    /** "one DEAD ("g", "c")": and "u", for DEAD it is CALLED by nobody already. */
    private static void oneDead() {
        WhoeverNamesIt x = new WhoeverNamesIt();
        Due.dead(x, 0, 0, 0);
        Due.due(2, "g", Due.tell(x, "g000;"), -2000);
        Due.due(2, "c", Due.tell(x, "c00;"), -2000);
        Due.due(2, "u", Due.tell(x, "u0;"), -2000);
        Due.due(2, "b behind it", Due.tell(x, "b0000;g100;g000;"), -2011);
        String poor = "b1900;p0000000;c00;";
        Due.due(2, "alive behind 4 days", told(poor + "d04;g001;c10;u0;"), 7);
        Due.due(2, "dead behind 5, g", told(poor + "d05;g001;"), -2023);
        Due.due(2, "dead behind 5, c", told(poor + "d05;c10;"), -2023);
        Due.due(2, "dead behind 5, u", told(poor + "d05;u0;"), -2023);
    }

    /** "no room". */
    private static void noRoom() {
        Due.due(2, "nine", told(many("b0000;", 9)), 9);
        Due.due(2, "ten", told(many("b0000;", 10)), -2054);
        Due.due(2, "nine behind one", toldOfOne(many("b0000;", 9)), -2048);
        Due.due(2, "eight behind one", toldOfOne(many("b0000;", 8)), 8);
    }

    /** "STATEMENTS are tried one behind the other, each on what those ahead of it made". */
    private static void eachOnThoseAhead() {
        Due.due(2, "one that comes first", told("b0000;g015;c00;u0;"), 4);
        Due.due(2, "one that comes only then", told("g015;b0000;"), -2000);
        Due.due(2, "the ninth", told(many("b0000;", 9) + "g815;c48;u8;"), 12);
        Due.due(2, "the eighth ahead of the ninth", told(many("b0000;", 8) + "g815;b0000;"), -2048);
        WhoeverNamesIt x = new WhoeverNamesIt();
        Due.tell(x, "b0000;d05;p1100040;d01;u0;d01;");
        Due.due(2, "called by the kind one on day 6, freed, hungry by 1", x.beast(0, 3), 1);
        Due.due(2, "by nobody", x.beast(0, 4), -4);
        Due.due(2, "means of a day's work", x.person(1, 0), 41);
    }

    /** "and the first that can't be done so is told (kind 2)", "the place of the letter". */
    private static void theFirstThatCannotBe() {
        Due.due(2, "of two the first", told("b0000;u0;u0;"), -2006);
        Due.due(2, "of three the first", told("d01;d00;b9000;g000;"), -2004);
        Due.due(2, "the last of 99 bytes", told(many("b0000;", 9) + many("d01;", 10) + "g099;"), -2094);
    }

    /** A goat at 5, called by 2. */
    private static WhoeverNamesIt calledGoat() {
        WhoeverNamesIt x = new WhoeverNamesIt();
        Due.come(x, 0, 1, 5);
        x.calls(2, 0);
        return x;
    }

    /** "Without FAULT all of it comes, with one nothing." */
    private static void withOneNothing() {
        String text = "b0512;g007;p3214123;c31;u0;d02;";
        for (String fault : new String[] {"b8000;", "g999;", "p0016000;", "p0400000;", "c50;", "u9;", "d61;", "d6", "x"}) {
            WhoeverNamesIt x = calledGoat();
            String before = Due.state(x);
            int kind = fault.endsWith(";") ? -2000 : -1000;
            int place = text.length() + (fault.equals("d6") ? 2 : 0);
            Due.due(2, "a fault behind all, " + fault, Due.tell(x, text + fault), kind - place);
            Due.due(2, "nothing of it came, " + fault, Due.state(x).equals(before) ? 1 : 0, 1);
        }
        WhoeverNamesIt x = calledGoat();
        Due.due(2, "without fault", Due.tell(x, text), 6);
        Due.due(2, "the beast more", x.beast(1, 1), 5);
        Due.due(2, "its caller", x.beast(1, 4), 3);
        Due.due(2, "the first is free", x.beast(0, 4), -4);
        Due.due(2, "tongue", x.person(3, 2), 2);
        Due.due(2, "day", x.count(1), 2);
    }

    /** "The ROW of a text .. stay there": with a fault and without. */
    private static void rowStays() {
        for (String text : new String[] {"b0512;g007;", "b0512;g9", "b0512;g907;"}) {
            WhoeverNamesIt x = new WhoeverNamesIt();
            Due.write(x, 3, text);
            x.mountain(3);
            for (int i = 0; i < text.length(); i++) {
                Due.due(2, "element " + i + " of " + text, x.element(3, i), text.charAt(i));
            }
            Due.due(2, "its end of " + text, Due.thrown(x, 3, text.length()), 2);
        }
    }

    /** "-1, -11, -12 (no ROW of bytes)". */
    private static void refused() {
        WhoeverNamesIt x = new WhoeverNamesIt();
        for (int d : new int[] {-1, 8, Integer.MIN_VALUE, Integer.MAX_VALUE}) {
            Due.due(2, "mountain(" + d + ")", x.mountain(d), -1);
        }
        for (int d = 0; d < 8; d++) {
            Due.due(2, "nothing", x.mountain(d), -11);
            x.keep(d, 1, 5, 0);
            Due.due(2, "a wolf", x.mountain(d), -12);
            x.row(d, 1, 0);
            Due.due(2, "an empty row of shorts", x.mountain(d), -12);
            x.row(d, 2, 0);
            Due.due(2, "an empty row of ints", x.mountain(d), -12);
            x.row(d, 0, 0);
            Due.due(2, "an empty row of bytes", x.mountain(d), -1000);
            Due.write(x, d, "d01;");
            Due.due(2, "a text", x.mountain(d), 1);
            x.keep(d, 0, 0, 0);
            Due.due(2, "nothing again", x.mountain(d), -11);
        }
    }
}
