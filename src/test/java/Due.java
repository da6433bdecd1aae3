/** What the tests share: an answer against the one that is due, and short ways to set a mountain up. */
final class Due {
    private static int wrong = 0;

    private Due() {
    }

    static void due(int promise, String call, long got, long want) {
        if (got != want) {
            wrong++;
            System.out.println("promise " + promise + ": " + call + " answered " + got + ", due is " + want);
        }
    }

    static void fault(String what) {
        wrong++;
        System.out.println(what);
    }

    static int wrongSoFar() {
        return wrong;
    }

    static void end(String test) {
        System.out.println(test + ": " + (wrong == 0 ? "all is as due" : wrong + " are not as due"));
        if (wrong != 0) {
            System.exit(1);
        }
    }

    /** A beast more, by shelf 7, that holds nothing behind it. */
    static int come(WhoeverNamesIt x, int sort, int figure, int place) {
        x.keep(7, 1, sort, figure);
        int b = x.comes(7, place);
        x.keep(7, 0, 0, 0);
        return b;
    }

    static void fill(WhoeverNamesIt x, int d, int kind, int... values) {
        x.row(d, kind, values.length);
        for (int i = 0; i < values.length; i++) {
            x.put(d, i, values[i]);
        }
    }

    static void write(WhoeverNamesIt x, int d, String text) {
        x.row(d, 0, text.length());
        for (int i = 0; i < text.length(); i++) {
            x.put(d, i, text.charAt(i));
        }
    }

    static int tell(WhoeverNamesIt x, String text) {
        write(x, 6, text);
        return x.mountain(6);
    }

    /** 1 or 2 for the exception that element throws, 0 if it throws none. */
    static int thrown(WhoeverNamesIt x, int d, int i) {
        try {
            x.element(d, i);
            return 0;
        } catch (IllegalArgumentException e) {
            return e.getClass() == IllegalArgumentException.class ? 1 : 3;
        } catch (IllegalStateException e) {
            return e.getClass() == IllegalStateException.class ? 2 : 3;
        }
    }

    /** Everybody stands at one place. */
    static void gather(WhoeverNamesIt x, int place) {
        for (int p = 0; p < 5; p++) {
            x.walks(p, place);
        }
    }

    /** All that a mountain tells of itself, in one text, to see that nothing changed. */
    static String state(WhoeverNamesIt x) {
        StringBuilder all = new StringBuilder();
        for (int what = 0; what <= 4; what++) {
            all.append(x.count(what)).append(' ');
        }
        for (int b = x.count(0) - 1; b >= 0; b--) {
            for (int what = 0; what <= 5; what++) {
                all.append(x.beast(b, what)).append(' ');
            }
        }
        for (int p = 0; p < 5; p++) {
            for (int what = 0; what <= 3; what++) {
                all.append(x.person(p, what)).append(' ');
            }
        }
        return all.toString();
    }

    /** One that is called by a person without means, five days long: dead. */
    static int dead(WhoeverNamesIt x, int person, int sort, int place) {
        int b = come(x, sort, 1, place);
        int had = x.means(person, 0);
        x.calls(person, b);
        x.days(5);
        x.means(person, had);
        return b;
    }
}
