import java.lang.reflect.InvocationTargetException;
import java.lang.reflect.Method;
import java.util.ArrayList;
import java.util.Arrays;
import java.util.HashMap;
import java.util.List;
import java.util.Map;
import java.util.TreeMap;
import java.util.TreeSet;

/**
 * Runs of calls made up by a fixed sequence, put to the class and to the model alike. Most arguments are as they
 * should be, some at an edge or beyond it; rows tell mostly what would be true, so that most questions have an answer.
 */
public final class AgainstModelTest {
    private static final int RUNS = 1600;

    /** A question by a row is some hundred calls, the look at all some 160: so no object goes beyond 512. */
    private static final int CALLS = 230;

    /** Each call with the range that each argument should keep to; what is beyond it by one is an edge to be tried. */
    private static final String[] FACE = {
        "mountain 0-7", "beast 0-B 0-8", "person 0-4 0-6", "comes 0-7 0-15", "stands 0-B 0-15", "walks 0-4 0-15",
        "calls 0-4 0-B", "answers 0-B", "tongue 0-4 0-3", "means 0-4 M", "days N",
        "beastThen 0-B 0-60 0-2", "personThen 0-4 0-60 0-2", "named 0-B 0-1", "dies D", "ruined 0-4", "still",
        "next 0-2", "name 0-4 0-30 0-1", "cover 0-4 W", "letGo 0-4 0-20", "stand 0-4 0-20 0-1", "least 0-4 0-20",
        "exchange 0-20", "teach 0-4 0-30 0-1", "of 0-4", "nearest 0-B", "whatIs 0-7 0-B 0-1", "whereFrom 0-7 0-B",
        "whose 0-7 0-B", "two 0-4 0-4 1-30", "snow 0-B 0-7 2-20 0-1", "share 0-4 0-1", "forged 0-7", "judge 0-7",
        "mountains 1-20 Z 0-1", "image", "restore", "count 0-4", "keep 0-7 0-1 0-7 0-9", "row 0-7 0-2 R",
        "put 0-7 0-12 Z", "element 0-7 0-12", "copy 0-7 0-12 0-7 0-12 0-12", "cost 0-7", "toss 0-7",
    };

    /** The calls that change what there is: seldomer than the questions. */
    private static final List<String> CHANGES = List.of("days", "restore", "stands", "walks", "calls", "answers",
        "tongue", "means", "row", "keep", "comes", "mountain");

    private static int state = 20261118;
    private static final Map<String, Method> METHODS = new HashMap<>();
    private static final Map<String, TreeSet<Long>> SEEN = new TreeMap<>();
    private static WhoeverNamesIt real;
    private static Model model;
    private static List<String> told;

    public static void main(String[] args) {
        for (Method m : WhoeverNamesIt.class.getMethods()) {
            METHODS.put(m.getName(), m);
        }
        for (int run = 0; run < RUNS && Due.wrongSoFar() < 10; run++) {
            real = new WhoeverNamesIt();
            model = new Model();
            told = new ArrayList<>();
            settle();
            while (told.size() < CALLS && Due.wrongSoFar() < 10) {
                if (below(4) == 0) {
                    askByRow();
                } else if (below(6) == 0) {
                    askOfRivals();
                } else {
                    askAnything();
                }
            }
            lookAtAll();
        }
        if (args.length > 0) {
            SEEN.forEach((name, answers) -> System.out.println(name + " " + answers.size() + " answers: "
                + (answers.size() > 30 ? new ArrayList<>(answers).subList(0, 30) : answers)));
        }
        for (String call : FACE) {
            String name = call.split(" ")[0];
            if (SEEN.getOrDefault(name, new TreeSet<>()).size() < (name.equals("keep") ? 2 : 3)) {
                Due.fault("too few answers were seen of " + name);
            }
        }
        Due.end("AgainstModelTest");
    }

    private static int below(int n) {
        state = state * 1664525 + 1013904223;
        return (int) ((state & 0xffffffffL) * n >>> 32);
    }

    private static long put(String name, int... a) {
        long due = model.call(name, a);
        long got;
        try {
            Object[] boxed = Arrays.stream(a).boxed().toArray();
            got = ((Number) METHODS.get(name).invoke(real, boxed)).longValue();
        } catch (InvocationTargetException e) {
            Class<?> thrown = e.getCause().getClass();
            got = thrown == IllegalArgumentException.class && name.equals("element") ? Long.MAX_VALUE - 1
                : thrown == IllegalStateException.class && name.equals("element") ? Long.MAX_VALUE - 2
                : Long.MIN_VALUE;
        } catch (IllegalAccessException e) {
            got = Long.MIN_VALUE;
        }
        told.add(name + Arrays.toString(a));
        SEEN.computeIfAbsent(name, k -> new TreeSet<>()).add(due);
        if (got != due) {
            Due.fault("after " + told.subList(Math.max(0, told.size() - 40), told.size()) + ": answered " + got
                + ", due is " + due);
        }
        return due;
    }

    private static void settle() {
        int near = below(3) == 0 ? 16 : 4 + below(5);
        int beasts = below(12) == 0 ? 0 : 2 + below(8);
        for (int b = 0; b < beasts; b++) {
            put("keep", 7, 1, below(8), below(10));
            put("comes", 7, below(near));
        }
        for (int p = 0; p < 5; p++) {
            put("tongue", p, below(4));
            put("means", p, means());
            if (below(2) == 0) {
                put("walks", p, below(near));
            }
        }
        for (int b = 0; b < beasts; b++) {
            if (below(3) == 0) {
                put("calls", below(5), b);
            }
        }
        if (below(2) == 0) {
            put("days", 1 + below(12));
        }
        for (int days = below(8) == 0 ? 16 : 0; days > 0; days--) {
            put("days", 60);
        }
    }

    private static int means() {
        return below(6) == 0 ? 990 + below(10) : below(2) == 0 ? below(8) : below(120);
    }

    private static void askAnything() {
        String[] call = FACE[below(FACE.length)].split(" ");
        if (CHANGES.contains(call[0]) && below(3) != 0) {
            return;
        }
        int[] a = new int[call.length - 1];
        for (int i = 0; i < a.length; i++) {
            a[i] = argument(call[i + 1]);
        }
        if (a.length > 0 && below(7) == 0) {
            int i = below(a.length);
            a[i] = beyond(call[i + 1]);
        }
        put(call[0], a);
    }

    /** Two who stand together where beasts come, and what depends on so little that made-up arguments seldom meet it. */
    private static void askOfRivals() {
        int a = below(5);
        int b = (a + 1 + below(4)) % 5;
        if (below(3) == 0) {
            int place = below(16);
            put("walks", a, place);
            put("walks", b, place);
            put("tongue", a, 1 + below(3));
            put("tongue", b, 1 + below(3));
            put("means", a, below(30));
            put("means", b, below(30));
        }
        put("two", a, b, 1 + below(30));
        int beasts = model.now.beasts.size();
        if (beasts > 0) {
            int one = below(beasts);
            put("calls", a, one);
            int had = (int) put("means", a, below(14));
            int t = 2 + below(19);
            int n = below(8);
            put("snow", one, n, t, 0);
            put("snow", one, n, t, 1);
            put("least", a, below(21));
            put("letGo", a, below(21));
            put("cover", a, below(20));
            put("means", a, had);
        }
    }

    private static int argument(String range) {
        int beasts = model.now.beasts.size();
        switch (range) {
            case "0-B": return below(beasts + (below(9) == 0 ? 2 : 0) + (beasts == 0 ? 1 : 0));
            case "M": return means();
            case "N": return below(4) == 0 ? 1 + below(60) : 1 + below(4);
            case "D": return below(beasts + 1) - 1;
            case "W": return below(3) == 0 ? below(100) : below(25);
            case "R": return below(12) == 0 ? below(101) : below(13);
            case "Z": return below(3) == 0 ? state : below(2) == 0 ? below(40) - 20 : odd();
            default: return within(range);
        }
    }

    private static int odd() {
        int[] odd = {-128, 127, 128, -129, 255, 256, -32768, 32767, 32768, -32769, 65535, 65536, Integer.MIN_VALUE,
            Integer.MAX_VALUE, 5, 0, -4};
        return odd[below(odd.length)];
    }

    private static int within(String range) {
        int low = Integer.parseInt(range.split("-")[0]);
        int high = Integer.parseInt(range.split("-")[1]);
        int dice = below(8);
        return dice == 0 ? low : dice == 1 ? high : low + below(high - low + 1);
    }

    private static int beyond(String range) {
        int high = range.matches("\\d+-\\d+") ? Integer.parseInt(range.split("-")[1])
            : range.equals("M") ? 999 : range.equals("N") ? 60 : range.equals("W") ? 99 : range.equals("R") ? 100 : 8;
        int low = range.matches("\\d+-\\d+") ? Integer.parseInt(range.split("-")[0]) : 0;
        int[] odd = {low - 1, high + 1, low - 2, high + 2, Integer.MIN_VALUE, Integer.MAX_VALUE};
        return odd[below(odd.length)];
    }

    /** A row of what would be so, a little of it skipped or false, and the question that it is for. */
    private static void askByRow() {
        int beasts = model.now.beasts.size();
        int b = beasts == 0 ? 0 : below(beasts);
        int question = below(6);
        int[] row = question == 5 ? null : truth(question, b, below(10) == 0 ? 99 : below(13));
        int d = below(7);
        int kind = below(3);
        if (row == null) {
            put("row", d, 0, 0);
            tellText(d);
            return;
        }
        put("row", d, kind, row.length);
        for (int i = 0; i < row.length; i++) {
            int skip = question != 3 && below(6) == 0
                ? (kind == 0 ? -128 : kind == 1 ? -32768 : Integer.MIN_VALUE) : row[i];
            put("put", d, i, below(40) == 0 ? row[i] + below(3) - 1 : skip);
        }
        switch (question) {
            case 0: put("whatIs", d, b, 0); put("whatIs", d, b, 1); break;
            case 1: put("whereFrom", d, b); break;
            case 2: put("whose", d, b); break;
            case 3: put("forged", d); break;
            default: put("judge", d); break;
        }
    }

    private static int[] truth(int question, int b, int length) {
        Model.World w = model.now.twin();
        Model.Beast one = b < w.beasts.size() ? w.beasts.get(b) : new Model.Beast(0, 0, 0);
        if (question == 0 && below(2) == 0) {
            one.sort = below(8);
            one.figure = below(10);
        } else if (question == 1 && one.alive && below(2) == 0) {
            one.place = below(16);
        } else if (question == 2 && one.alive && below(2) == 0) {
            one.caller = below(6) == 5 ? Model.NONE : below(5);
        }
        if (question == 3) {
            return w.beasts.stream().mapToInt(x -> x.caller == Model.NONE ? 5 : x.caller).toArray();
        }
        if (question == 1) {
            w.go(1);
        }
        int[] row = new int[length];
        for (int i = 0; i < length; i++) {
            row[i] = question == 4 ? w.sum(h -> h.means) : question == 2 ? one.hunger : one.place;
            w.go(1);
        }
        return row;
    }

    private static void tellText(int d) {
        StringBuilder text = new StringBuilder();
        int beasts = model.now.beasts.size();
        for (int i = 1 + below(8); i > 0; i--) {
            int b = below(6) == 0 ? below(10) : beasts == 0 ? 0 : below(beasts);
            int p = below(15) == 0 ? below(10) : below(5);
            int place = below(15) == 0 ? below(100) : below(16);
            switch (below(7)) {
                case 0:
                case 1:
                    text.append('b').append(below(12) == 0 ? below(10) : below(8)).append(below(10));
                    text.append(two(place)).append(';');
                    beasts = Math.min(9, beasts + 1);
                    break;
                case 2: text.append('g').append(b).append(two(place)).append(';'); break;
                case 3:
                    text.append('p').append(p).append(below(12) == 0 ? below(10) : below(4)).append(two(place));
                    text.append(String.format("%03d", means())).append(';');
                    break;
                case 4: text.append('c').append(p).append(b).append(';'); break;
                case 5: text.append('u').append(b).append(';'); break;
                default: text.append('d').append(two(below(9) == 0 ? below(100) : 1 + below(3))).append(';'); break;
            }
        }
        if (below(5) == 0) {
            text.setLength(below(text.length() + 1));
        } else if (below(6) == 0) {
            text.setCharAt(below(text.length()), "0;bgpcudx:/ \u00e4A".charAt(below(14)));
        }
        put("row", d, 0, text.length());
        for (int i = 0; i < text.length(); i++) {
            put("put", d, i, text.charAt(i));
        }
        put("mountain", d);
    }

    private static String two(int v) {
        return String.format("%02d", v);
    }

    private static void lookAtAll() {
        for (int b = 0; b < model.now.beasts.size(); b++) {
            for (int what = 0; what <= 8; what++) {
                put("beast", b, what);
            }
        }
        for (int p = 0; p < 5; p++) {
            for (int what = 0; what <= 6; what++) {
                put("person", p, what);
            }
        }
        for (int what = 0; what <= 4; what++) {
            put("count", what);
        }
        for (int d = 0; d < 8; d++) {
            for (int i = 0; i < 4; i++) {
                put("element", d, i * i);
            }
            put("cost", d);
        }
    }
}
