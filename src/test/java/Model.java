import java.math.BigInteger;
import java.util.ArrayList;
import java.util.Arrays;
import java.util.Comparator;
import java.util.LinkedHashMap;
import java.util.List;
import java.util.Map;
import java.util.function.Consumer;
import java.util.function.IntPredicate;
import java.util.function.Predicate;
import java.util.function.ToIntFunction;
import java.util.regex.Matcher;
import java.util.regex.Pattern;
import java.util.stream.Collectors;
import java.util.stream.IntStream;

/**
 * The document told a second time, in other words than the class: sorts as classes under one another, a mountain as
 * objects that are copied whole, each question by trying all there is to try. Nothing here is meant to be fast.
 */
final class Model {
    static final int NONE = -4;

    /** An answer that is a refusal of a call of longs. */
    static final long LONG_REFUSED = 1000000001L;

    // The sorts.

    static class Goat {
        int need(int figure) {
            return 2;
        }

        int work(int figure) {
            return 3;
        }

        int cost(int figure) {
            return figure;
        }

        Integer failure(int figure) {
            return figure == 0 ? null : Integer.valueOf(figure);
        }

        int wants(World w, Beast b, int day) {
            return w.people.get(w.nearest(b)).place;
        }
    }

    static class Lamb extends Goat {
        @Override
        int need(int figure) {
            return 1;
        }

        @Override
        int work(int figure) {
            return 0;
        }

        @Override
        int cost(int figure) {
            return 1;
        }

        @Override
        Integer failure(int figure) {
            return null;
        }

        @Override
        int wants(World w, Beast b, int day) {
            return day % (2 + b.figure) == 0 ? super.wants(w, b, day) : NONE;
        }
    }

    static class Bull extends Goat {
        @Override
        int need(int figure) {
            return super.need(figure) + figure;
        }

        @Override
        int work(int figure) {
            return figure + figure;
        }

        @Override
        int cost(int figure) {
            return super.cost(figure) + 3;
        }

        @Override
        Integer failure(int figure) {
            Integer f = super.failure(figure);
            return f == null ? null : Integer.valueOf(f + 100);
        }

        @Override
        int wants(World w, Beast b, int day) {
            return b.hunger < b.figure ? NONE : super.wants(w, b, day);
        }
    }

    static class Mare extends Bull {
        @Override
        int need(int figure) {
            return super.need(figure) - 1;
        }

        @Override
        int work(int figure) {
            return super.work(figure) + 2;
        }

        @Override
        int cost(int figure) {
            return super.cost(figure) * 2;
        }

        @Override
        int wants(World w, Beast b, int day) {
            int richest = 4;
            for (int p = 4; p >= 0; p--) {
                richest = w.people.get(p).means >= w.people.get(richest).means ? p : richest;
            }
            return w.people.get(richest).place;
        }
    }

    static class Dog extends Goat {
        @Override
        int need(int figure) {
            return 3;
        }

        @Override
        int work(int figure) {
            return 1;
        }

        @Override
        int cost(int figure) {
            return 5;
        }

        @Override
        Integer failure(int figure) {
            return null;
        }

        @Override
        int wants(World w, Beast b, int day) {
            return b.caller == NONE ? super.wants(w, b, day) : w.people.get(b.caller).place;
        }
    }

    static class Wolf extends Dog {
        @Override
        int need(int figure) {
            return 2 * super.need(figure);
        }

        @Override
        int work(int figure) {
            return 0;
        }

        @Override
        int cost(int figure) {
            return 0;
        }

        @Override
        Integer failure(int figure) {
            return figure == 0 ? null : Integer.valueOf(200 + cost(figure));
        }

        @Override
        int wants(World w, Beast b, int day) {
            int feared = w.people.get(w.nearest(b)).place;
            return feared > b.place ? 0 : 15;
        }
    }

    static class Ass extends Mare {
        @Override
        int need(int figure) {
            return super.need(figure) / 2;
        }

        @Override
        int work(int figure) {
            return super.work(figure) - 1;
        }

        @Override
        int wants(World w, Beast b, int day) {
            return b.hunger % 2 == 1 ? NONE : super.wants(w, b, day);
        }
    }

    static class Whelp extends Wolf {
        @Override
        int need(int figure) {
            return super.need(figure) + 1;
        }

        @Override
        int cost(int figure) {
            return super.cost(figure) + 1;
        }

        @Override
        int wants(World w, Beast b, int day) {
            return b.caller == NONE ? super.wants(w, b, day) : w.people.get(b.caller).place;
        }
    }

    static final List<Goat> SORTS = List.of(new Goat(), new Lamb(), new Bull(), new Mare(), new Dog(), new Wolf(),
        new Ass(), new Whelp());

    // What there is.

    static final class Beast {
        int sort;
        int figure;
        int place;
        int hunger = 0;
        int caller = NONE;
        boolean alive = true;

        Beast(int sort, int figure, int place) {
            this.sort = sort;
            this.figure = figure;
            this.place = place;
        }

        Beast twin() {
            Beast t = new Beast(sort, figure, place);
            t.hunger = hunger;
            t.caller = caller;
            t.alive = alive;
            return t;
        }

        boolean free() {
            return alive && caller == NONE;
        }

        int need() {
            return SORTS.get(sort).need(figure);
        }

        int work() {
            return SORTS.get(sort).work(figure);
        }
    }

    static final class Human {
        int means = 40;
        int place;
        int tongue = 0;
        int grief = 0;

        Human(int place) {
            this.place = place;
        }

        Human twin() {
            Human t = new Human(place);
            t.means = means;
            t.tongue = tongue;
            t.grief = grief;
            return t;
        }
    }

    static final class World {
        int day = 0;
        final List<Beast> beasts = new ArrayList<>();
        final List<Human> people = new ArrayList<>();

        static World first() {
            World w = new World();
            for (int p = 0; p < 5; p++) {
                w.people.add(new Human(3 * p));
            }
            return w;
        }

        World twin() {
            World t = new World();
            t.day = day;
            beasts.forEach(b -> t.beasts.add(b.twin()));
            people.forEach(p -> t.people.add(p.twin()));
            return t;
        }

        int nearest(Beast b) {
            return IntStream.range(0, 5).boxed()
                .min(Comparator.comparingInt((Integer p) -> Math.abs(people.get(p).place - b.place))
                    .thenComparingInt(p -> p)).get();
        }

        int bits(Predicate<Beast> which) {
            int bits = 0;
            for (int b = beasts.size() - 1; b >= 0; b--) {
                bits = 2 * bits + (which.test(beasts.get(b)) ? 1 : 0);
            }
            return bits;
        }

        int of(int p) {
            return bits(b -> b.caller == p);
        }

        int called() {
            return bits(b -> b.caller != NONE);
        }

        int alive() {
            return bits(b -> b.alive);
        }

        int sum(ToIntFunction<Human> what) {
            return people.stream().mapToInt(what).sum();
        }

        int needOf(int p) {
            return beasts.stream().filter(b -> b.caller == p).mapToInt(Beast::need).sum();
        }

        int workOf(int p) {
            return beasts.stream().filter(b -> b.caller == p).mapToInt(Beast::work).sum();
        }

        int wants(Beast b, int d) {
            return b.alive ? SORTS.get(b.sort).wants(this, b, d) : NONE;
        }

        World go(int n) {
            for (int i = 0; i < n; i++) {
                oneDay(0);
            }
            return this;
        }

        World then(int n) {
            return twin().go(n);
        }

        void oneDay(int snow) {
            day++;
            for (Beast b : beasts) {
                int goal = wants(b, day);
                if (goal != NONE) {
                    b.place += Integer.signum(goal - b.place);
                }
            }
            for (int p = 0; p < 5; p++) {
                speak(p);
            }
            beasts.stream().filter(b -> b.alive).forEach(b -> eat(b, snow));
        }

        private void speak(int p) {
            Human h = people.get(p);
            List<Beast> there = beasts.stream().filter(b -> b.free() && b.place == h.place)
                .collect(Collectors.toList());
            if (h.tongue == 1) {
                there.removeIf(b -> b.hunger < 5);
                there = there.subList(0, Math.min(1, there.size()));
            } else if (h.tongue == 2) {
                there.removeIf(b -> b.work() < 4);
                there.sort(Comparator.comparingInt(b -> -b.work()));
                there = there.subList(0, Math.min(1, there.size()));
            } else if (h.tongue == 0) {
                there.clear();
            }
            there.forEach(b -> b.caller = p);
        }

        private void eat(Beast b, int snow) {
            if (b.caller == NONE) {
                b.hunger = b.hunger == 9 ? 9 : b.hunger + 1;
                return;
            }
            Human h = people.get(b.caller);
            if (h.means - b.need() - snow >= 0) {
                h.means -= b.need() + snow;
                h.means += b.work();
                h.means = h.means > 999 ? 999 : h.means;
                b.hunger = 0;
                return;
            }
            b.hunger = b.hunger >= 7 ? 9 : b.hunger + 2;
            if (b.hunger == 9) {
                b.alive = false;
                b.caller = NONE;
                h.grief = h.grief == 99 ? 99 : h.grief + 1;
            }
        }
    }

    /** A shelf: the beast or the row is null if it holds none. */
    static final class Board {
        int[] beast;
        int kind;
        int[] row;

        int refusalOfRow() {
            return row != null ? 0 : beast != null ? -12 : -11;
        }

        int refusalOfBeast() {
            return beast != null ? 0 : row != null ? -12 : -11;
        }

        boolean told(int i) {
            return row[i] != (kind == 0 ? Byte.MIN_VALUE : kind == 1 ? Short.MIN_VALUE : Integer.MIN_VALUE);
        }
    }

    World now = World.first();
    World pictured = null;
    final Board[] shelves = new Board[8];

    Model() {
        for (int d = 0; d < 8; d++) {
            shelves[d] = new Board();
        }
    }

    private static boolean in(int x, int low, int high) {
        return low <= x && x <= high;
    }

    private boolean beastThere(int b) {
        return in(b, 0, now.beasts.size() - 1);
    }

    private static boolean somebody(int p) {
        return in(p, 0, 4);
    }

    // The calls, by name.

    long call(String name, int... a) {
        switch (name) {
            case "mountain": return mountain(a[0]);
            case "beast": return beast(a[0], a[1]);
            case "person": return person(a[0], a[1]);
            case "comes": return comes(a[0], a[1]);
            case "stands": return stands(now, a[0], a[1]);
            case "walks": return walks(now, a[0], a[1]);
            case "calls": return calls(now, a[0], a[1]);
            case "answers": return answers(now, a[0]);
            case "tongue": return tongue(now, a[0], a[1]);
            case "means": return means(now, a[0], a[1]);
            case "days": return days(now, a[0]);
            default: return callOfThen(name, a);
        }
    }

    private long callOfThen(String name, int... a) {
        switch (name) {
            case "beastThen": return beastThen(a[0], a[1], a[2]);
            case "personThen": return personThen(a[0], a[1], a[2]);
            case "named": return named(a[0], a[1]);
            case "dies": return dies(a[0]);
            case "ruined": return ruined(a[0]);
            case "still": return still();
            case "next": return next(a[0]);
            case "name": return name(a[0], a[1], a[2]);
            case "cover": return cover(a[0], a[1]);
            case "letGo": return letGo(a[0], a[1]);
            case "stand": return stand(a[0], a[1], a[2]);
            case "least": return least(a[0], a[1]);
            case "exchange": return exchange(a[0]);
            case "teach": return teach(a[0], a[1], a[2]);
            case "of": return of(a[0]);
            case "nearest": return nearest(a[0]);
            default: return callOfSorts(name, a);
        }
    }

    private long callOfSorts(String name, int... a) {
        switch (name) {
            case "whatIs": return whatIs(a[0], a[1], a[2]);
            case "whereFrom": return whereFrom(a[0], a[1]);
            case "whose": return whose(a[0], a[1]);
            case "two": return two(a[0], a[1], a[2]);
            case "snow": return snow(a[0], a[1], a[2], a[3]);
            case "share": return share(a[0], a[1]);
            case "forged": return forged(a[0]);
            case "judge": return judge(a[0]);
            case "mountains": return mountains(a[0], a[1], a[2]);
            case "image": pictured = now.twin(); return now.day;
            case "restore": return restore();
            case "count": return count(a[0]);
            default: return callOfShelves(name, a);
        }
    }

    private long callOfShelves(String name, int... a) {
        switch (name) {
            case "keep": return keep(a[0], a[1], a[2], a[3]);
            case "row": return row(a[0], a[1], a[2]);
            case "put": return put(a[0], a[1], a[2]);
            case "element": return element(a[0], a[1]);
            case "copy": return copy(a[0], a[1], a[2], a[3], a[4]);
            case "cost": return cost(a[0]);
            case "toss": return toss(a[0]);
            default: throw new IllegalArgumentException(name);
        }
    }

    // The mountain as told.

    private static final Map<String, Pattern> FORMS = new LinkedHashMap<>();

    static {
        FORMS.put("b", Pattern.compile("b(\\d)(\\d)(\\d\\d);"));
        FORMS.put("g", Pattern.compile("g(\\d)(\\d\\d);"));
        FORMS.put("p", Pattern.compile("p(\\d)(\\d)(\\d\\d)(\\d\\d\\d);"));
        FORMS.put("c", Pattern.compile("c(\\d)(\\d);"));
        FORMS.put("u", Pattern.compile("u(\\d);"));
        FORMS.put("d", Pattern.compile("d(\\d\\d);"));
    }

    private static final Pattern WHOLE =
        Pattern.compile("(b\\d{4};|g\\d{3};|p\\d{7};|c\\d\\d;|u\\d;|d\\d\\d;)+");

    /** Whether some text of right form begins like this. */
    private static boolean goesOn(String text) {
        Matcher m = WHOLE.matcher(text);
        return m.matches() || m.hitEnd();
    }

    private long mountain(int d) {
        if (!in(d, 0, 7)) {
            return -1;
        }
        Board s = shelves[d];
        if (s.row == null && s.beast == null) {
            return -11;
        }
        if (s.row == null || s.kind != 0) {
            return -12;
        }
        StringBuilder signs = new StringBuilder();
        for (int v : s.row) {
            signs.append((char) (v & 255));
        }
        String text = signs.toString();
        if (!WHOLE.matcher(text).matches()) {
            int end = 0;
            while (end < text.length() && goesOn(text.substring(0, end + 1))) {
                end++;
            }
            return -1000 - end;
        }
        World w = now.twin();
        int told = 0;
        for (int at = 0; at < text.length(); at = text.indexOf(';', at) + 1) {
            if (!statement(w, text.substring(at, text.indexOf(';', at) + 1))) {
                return -2000 - at;
            }
            told++;
        }
        now = w;
        return told;
    }

    private static boolean statement(World w, String s) {
        Matcher m = FORMS.get(s.substring(0, 1)).matcher(s);
        if (!m.matches()) {
            throw new IllegalStateException(s);
        }
        int[] v = new int[m.groupCount()];
        for (int i = 0; i < v.length; i++) {
            v[i] = Integer.parseInt(m.group(i + 1));
        }
        long answer;
        switch (s.charAt(0)) {
            case 'b': answer = add(w, v[0], v[1], v[2]); break;
            case 'g': answer = stands(w, v[0], v[1]); break;
            case 'p':
                if (v[0] > 4 || v[1] > 3 || v[2] > 15) {
                    return false;
                }
                w.people.get(v[0]).tongue = v[1];
                w.people.get(v[0]).place = v[2];
                w.people.get(v[0]).means = v[3];
                return true;
            case 'c': answer = calls(w, v[0], v[1]); break;
            case 'u': answer = answers(w, v[0]); break;
            default: answer = days(w, v[0]); break;
        }
        return answer != -1 && answer != -2 && answer != -3;
    }

    private static long add(World w, int sort, int figure, int place) {
        if (!in(sort, 0, 7) || !in(place, 0, 15)) {
            return -1;
        }
        if (w.beasts.size() == 9) {
            return -2;
        }
        w.beasts.add(new Beast(sort, figure, place));
        return w.beasts.size() - 1;
    }

    private long beast(int b, int what) {
        if (!beastThere(b)) {
            return -1;
        }
        Beast x = now.beasts.get(b);
        int[] all = {x.sort, x.figure, x.place, x.hunger, x.caller, x.alive ? 1 : 0, x.need(), x.work(),
            now.wants(x, now.day + 1)};
        return in(what, 0, 8) ? all[what] : -1;
    }

    private long person(int p, int what) {
        if (!somebody(p)) {
            return -1;
        }
        Human h = now.people.get(p);
        int[] all = {h.means, h.place, h.tongue, h.grief, now.of(p), now.needOf(p), now.workOf(p)};
        return in(what, 0, 6) ? all[what] : -1;
    }

    private long comes(int d, int place) {
        if (!in(d, 0, 7) || !in(place, 0, 15)) {
            return -1;
        }
        int refusal = shelves[d].refusalOfBeast();
        return refusal != 0 ? refusal : add(now, shelves[d].beast[0], shelves[d].beast[1], place);
    }

    private static long stands(World w, int b, int place) {
        if (!in(b, 0, w.beasts.size() - 1) || !in(place, 0, 15)) {
            return -1;
        }
        if (!w.beasts.get(b).alive) {
            return -3;
        }
        int was = w.beasts.get(b).place;
        w.beasts.get(b).place = place;
        return was;
    }

    private static long walks(World w, int p, int place) {
        if (!somebody(p) || !in(place, 0, 15)) {
            return -1;
        }
        int was = w.people.get(p).place;
        w.people.get(p).place = place;
        return was;
    }

    private static long calls(World w, int p, int b) {
        if (!somebody(p) || !in(b, 0, w.beasts.size() - 1)) {
            return -1;
        }
        if (!w.beasts.get(b).alive) {
            return -3;
        }
        int was = w.beasts.get(b).caller;
        w.beasts.get(b).caller = p;
        return was;
    }

    private static long answers(World w, int b) {
        if (!in(b, 0, w.beasts.size() - 1)) {
            return -1;
        }
        int was = w.beasts.get(b).caller;
        w.beasts.get(b).caller = NONE;
        return was == NONE ? -3 : was;
    }

    private static long tongue(World w, int p, int t) {
        if (!somebody(p) || !in(t, 0, 3)) {
            return -1;
        }
        int was = w.people.get(p).tongue;
        w.people.get(p).tongue = t;
        return was;
    }

    private static long means(World w, int p, int v) {
        if (!somebody(p) || !in(v, 0, 999)) {
            return -1;
        }
        int was = w.people.get(p).means;
        w.people.get(p).means = v;
        return was;
    }

    private static long days(World w, int n) {
        if (!in(n, 1, 60)) {
            return -1;
        }
        if (w.day + n > 999) {
            return -3;
        }
        w.go(n);
        return Integer.bitCount(w.alive());
    }

    // Days on.

    private long beastThen(int b, int n, int what) {
        if (!beastThere(b) || !in(n, 0, 60) || !in(what, 0, 2)) {
            return -1;
        }
        Beast x = now.then(n).beasts.get(b);
        return new int[] {x.place, x.hunger, x.caller}[what];
    }

    private long personThen(int p, int n, int what) {
        if (!somebody(p) || !in(n, 0, 60) || !in(what, 0, 2)) {
            return -1;
        }
        World w = now.then(n);
        return new int[] {w.people.get(p).means, w.people.get(p).grief, w.of(p)}[what];
    }

    /** The first number of days, in this range, behind which it is so. */
    private int firstDay(int from, int to, IntPredicate so) {
        return IntStream.rangeClosed(from, to).filter(so).findFirst().orElse(NONE);
    }

    private long named(int b, int what) {
        if (!beastThere(b) || !in(what, 0, 1)) {
            return -1;
        }
        int n = firstDay(0, 60, k -> now.then(k).beasts.get(b).caller != NONE);
        return n == NONE || what == 0 ? n : now.then(n).beasts.get(b).caller;
    }

    private long dies(int b) {
        if (b == -1) {
            int n = firstDay(0, 60, k -> now.then(k).alive() != now.alive());
            return n == NONE ? NONE : Integer.numberOfTrailingZeros(now.alive() ^ now.then(n).alive());
        }
        return beastThere(b) ? firstDay(0, 60, k -> !now.then(k).beasts.get(b).alive) : -1;
    }

    private long ruined(int p) {
        return somebody(p) ? firstDay(0, 60, k -> {
            World w = now.then(k);
            return w.people.get(p).means < w.needOf(p);
        }) : -1;
    }

    private static List<Integer> places(World w) {
        return w.beasts.stream().map(b -> b.place).collect(Collectors.toList());
    }

    private long still() {
        List<List<Integer>> all = IntStream.rangeClosed(0, 60).mapToObj(k -> places(now.then(k)))
            .collect(Collectors.toList());
        return firstDay(0, 40, n -> IntStream.rangeClosed(1, 20).allMatch(k -> all.get(n).equals(all.get(n + k))));
    }

    private long next(int what) {
        World w = now.then(1);
        int moved = 0;
        for (int b = 0; b < now.beasts.size(); b++) {
            moved |= now.beasts.get(b).place != w.beasts.get(b).place ? 1 << b : 0;
        }
        int[] all = {w.called() & ~now.called(), now.alive() & ~w.alive(), moved};
        return in(what, 0, 2) ? all[what] : -1;
    }

    // Whom to name, whom to let go.

    /** A world as now, but for this. */
    private World but(Consumer<World> change) {
        World w = now.twin();
        change.accept(w);
        return w;
    }

    private int meansThen(int p, int n, Consumer<World> change) {
        return but(change).go(n).people.get(p).means;
    }

    private long name(int p, int n, int what) {
        if (!somebody(p) || !in(n, 0, 30) || !in(what, 0, 1)) {
            return -1;
        }
        int best = NONE;
        int most = meansThen(p, n, w -> { });
        for (int b = 0; b < now.beasts.size(); b++) {
            int k = b;
            int his = now.beasts.get(b).free() ? meansThen(p, n, w -> w.beasts.get(k).caller = p) : -1;
            if (his > most) {
                best = b;
                most = his;
            }
        }
        return best == NONE ? NONE : what == 0 ? best : most;
    }

    private static void give(World w, int set, int p) {
        for (int b = 0; b < w.beasts.size(); b++) {
            if ((set & 1 << b) != 0) {
                w.beasts.get(b).caller = p;
            }
        }
    }

    /** Of the sets of a pool that please, the one of fewest, of several the least. */
    private static int fewest(int pool, IntPredicate pleases) {
        return IntStream.range(0, 512).filter(s -> (s & pool) == s).boxed()
            .sorted(Comparator.comparingInt(Integer::bitCount).thenComparingInt(s -> s))
            .filter(s -> pleases.test(s)).findFirst().orElse(NONE);
    }

    private long cover(int p, int v) {
        if (!somebody(p) || !in(v, 0, 99)) {
            return -1;
        }
        return fewest(now.bits(Beast::free), s -> {
            World w = but(x -> give(x, s, p));
            int his = w.of(p);
            return w.workOf(p) >= v && (w.then(12).alive() & his) == his;
        });
    }

    private long letGo(int p, int n) {
        if (!somebody(p) || !in(n, 0, 20)) {
            return -1;
        }
        return fewest(now.of(p), s -> {
            World w = but(x -> give(x, s, NONE));
            int his = w.of(p);
            return (w.then(n).alive() & his) == his;
        });
    }

    /** Of what is tried by numbers, the first with the most means; 1 the number, 0 the means, as asked. */
    private int mostMeans(int p, int n, int choices, int what, java.util.function.ObjIntConsumer<World> change) {
        List<Integer> all = IntStream.range(0, choices)
            .mapToObj(c -> meansThen(p, n, w -> change.accept(w, c))).collect(Collectors.toList());
        int most = all.stream().max(Comparator.naturalOrder()).get();
        return what == 0 ? all.indexOf(most) : most;
    }

    private long stand(int p, int n, int what) {
        if (!somebody(p) || !in(n, 0, 20) || !in(what, 0, 1)) {
            return -1;
        }
        return mostMeans(p, n, 16, what, (w, c) -> w.people.get(p).place = c);
    }

    private long teach(int p, int n, int what) {
        if (!somebody(p) || !in(n, 0, 30) || !in(what, 0, 1)) {
            return -1;
        }
        return mostMeans(p, n, 4, what, (w, c) -> w.people.get(p).tongue = c);
    }

    private long least(int p, int n) {
        if (!somebody(p) || !in(n, 0, 20)) {
            return -1;
        }
        int his = now.of(p);
        return firstDay(0, 60, v -> (but(w -> w.people.get(p).means = v).go(n).alive() & his) == his);
    }

    private long exchange(int n) {
        if (!in(n, 0, 20)) {
            return -1;
        }
        int best = NONE;
        int most = Integer.bitCount(now.then(n).alive());
        for (int pair = 1; pair <= 34; pair++) {
            int a = pair / 10;
            int b = pair % 10;
            if (a < b && b < 5) {
                int left = Integer.bitCount(but(w -> {
                    w.people.get(a).tongue = now.people.get(b).tongue;
                    w.people.get(b).tongue = now.people.get(a).tongue;
                }).go(n).alive());
                best = left > most ? pair : best;
                most = Math.max(most, left);
            }
        }
        return best;
    }

    private long of(int what) {
        switch (what) {
            case 0: return first(5, p -> now.people.get(p).means);
            case 1: return first(5, p -> Integer.bitCount(now.of(p)));
            case 2: return now.bits(Beast::free);
            case 3:
                int twos = 0;
                for (Beast a : now.beasts) {
                    for (Beast b : now.beasts) {
                        twos += a != b && a.alive && b.alive && a.place == b.place ? 1 : 0;
                    }
                }
                return twos / 2;
            case 4:
                int b = first(now.beasts.size(), k -> now.beasts.get(k).alive ? now.beasts.get(k).hunger : -1);
                return b != NONE && now.beasts.get(b).alive ? b : NONE;
            default: return -1;
        }
    }

    private static int first(int n, java.util.function.IntUnaryOperator worth) {
        int best = NONE;
        for (int i = n - 1; i >= 0; i--) {
            best = best == NONE || worth.applyAsInt(i) >= worth.applyAsInt(best) ? i : best;
        }
        return best;
    }

    private long nearest(int b) {
        return !beastThere(b) ? -1 : !now.beasts.get(b).alive ? -3 : now.nearest(now.beasts.get(b));
    }

    // What sort one is, whose.

    private boolean fits(Board row, int ahead, Consumer<World> change, ToIntFunction<World> what) {
        World w = but(change).go(ahead);
        for (int i = 0; i < row.row.length; i++) {
            if (row.told(i) && row.row[i] != what.applyAsInt(w)) {
                return false;
            }
            w.go(1);
        }
        return true;
    }

    private static int bitsOf(int n, IntPredicate so) {
        return IntStream.range(0, n).filter(so).map(i -> 1 << i).sum();
    }

    private long whatIs(int d, int b, int what) {
        if (!in(d, 0, 7) || !beastThere(b) || !in(what, 0, 1)) {
            return -1;
        }
        Board row = shelves[d];
        if (row.refusalOfRow() != 0) {
            return row.refusalOfRow();
        }
        ToIntFunction<World> place = w -> w.beasts.get(b).place;
        return what == 0 ? bitsOf(8, s -> fits(row, 0, w -> w.beasts.get(b).sort = s, place))
            : bitsOf(10, f -> fits(row, 0, w -> w.beasts.get(b).figure = f, place));
    }

    private int refusalOfOneAlive(int d, int b) {
        return !in(d, 0, 7) || !beastThere(b) ? -1 : !now.beasts.get(b).alive ? -3 : shelves[d].refusalOfRow();
    }

    private long whereFrom(int d, int b) {
        int refusal = refusalOfOneAlive(d, b);
        return refusal != 0 ? refusal : bitsOf(16,
            c -> fits(shelves[d], 1, w -> w.beasts.get(b).place = c, w -> w.beasts.get(b).place));
    }

    private long whose(int d, int b) {
        int refusal = refusalOfOneAlive(d, b);
        return refusal != 0 ? refusal : bitsOf(6,
            c -> fits(shelves[d], 0, w -> w.beasts.get(b).caller = c == 5 ? NONE : c, w -> w.beasts.get(b).hunger));
    }

    private int worth(int p, int n, int a, int one, int b, int other) {
        World w = but(x -> {
            x.people.get(a).tongue *= one;
            x.people.get(b).tongue *= other;
        }).go(n);
        return w.people.get(p).means - 5 * (w.people.get(p).grief - now.people.get(p).grief);
    }

    private long two(int a, int b, int n) {
        if (!somebody(a) || !somebody(b) || a == b || !in(n, 1, 30)) {
            return -1;
        }
        for (int one = 0; one < 2; one++) {
            for (int other = 0; other < 2; other++) {
                if (worth(a, n, a, one, b, other) >= worth(a, n, a, 1 - one, b, other)
                    && worth(b, n, a, one, b, other) >= worth(b, n, a, one, b, 1 - other)) {
                    return 10 * one + other;
                }
            }
        }
        return NONE;
    }

    private static long part(BigInteger above, BigInteger below, int part) {
        if (below.signum() == 0) {
            return part;
        }
        BigInteger g = above.gcd(below);
        return (part == 0 ? above : below).divide(g).longValueExact();
    }

    private long snow(int b, int n, int t, int part) {
        if (!beastThere(b) || !in(n, 0, 7) || !in(t, 2, 20) || !in(part, 0, 1)) {
            return LONG_REFUSED;
        }
        return part(odds(now, b, n, t), BigInteger.valueOf(t).pow(n), part);
    }

    private static BigInteger odds(World w, int b, int n, int t) {
        if (n == 0) {
            return w.beasts.get(b).alive ? BigInteger.ONE : BigInteger.ZERO;
        }
        World white = w.twin();
        white.oneDay(2);
        World green = w.twin();
        green.oneDay(0);
        return odds(white, b, n - 1, t).add(odds(green, b, n - 1, t).multiply(BigInteger.valueOf(t - 1)));
    }

    private long share(int p, int part) {
        if (!somebody(p) || !in(part, 0, 1)) {
            return LONG_REFUSED;
        }
        return part(BigInteger.valueOf(now.people.get(p).means), BigInteger.valueOf(now.sum(h -> h.means)), part);
    }

    // Told books, mountains by seeds.

    private long forged(int d) {
        if (!in(d, 0, 7)) {
            return -1;
        }
        if (shelves[d].refusalOfRow() != 0) {
            return shelves[d].refusalOfRow();
        }
        int[] row = shelves[d].row;
        return firstDay(0, row.length - 1, b -> b >= now.beasts.size()
            || row[b] != (now.beasts.get(b).caller == NONE ? 5 : now.beasts.get(b).caller));
    }

    private long judge(int d) {
        if (!in(d, 0, 7)) {
            return -1;
        }
        Board row = shelves[d];
        if (row.refusalOfRow() != 0) {
            return row.refusalOfRow();
        }
        return firstDay(0, row.row.length - 1,
            n -> row.told(n) && row.row[n] != now.then(n).sum(h -> h.means));
    }

    private long mountains(int n, int z, int what) {
        if (!in(n, 1, 20) || !in(what, 0, 1)) {
            return -1;
        }
        BigInteger two32 = BigInteger.ONE.shiftLeft(32);
        BigInteger[] seed = {BigInteger.valueOf(z)};
        int called = 0;
        int grief = 0;
        for (int m = 0; m < n; m++) {
            World w = but(x -> x.beasts.stream().filter(b -> b.alive).forEach(b -> {
                seed[0] = seed[0].multiply(BigInteger.valueOf(1103515245)).add(BigInteger.valueOf(12345)).mod(two32);
                b.place = seed[0].clearBit(31).divide(BigInteger.valueOf(65536)).intValue() % 16;
            })).go(12);
            called += Integer.bitCount(w.called());
            grief += w.sum(h -> h.grief) - now.sum(h -> h.grief);
        }
        return what == 0 ? called : grief;
    }

    private long restore() {
        if (pictured == null) {
            return -3;
        }
        now = pictured.twin();
        return now.day;
    }

    private long count(int what) {
        int[] all = {now.beasts.size(), now.day, now.alive(), now.called(), now.sum(h -> h.means)};
        return in(what, 0, 4) ? all[what] : -1;
    }

    // Shelves.

    private long keep(int d, int what, int k, int figure) {
        if (!in(d, 0, 7) || !in(what, 0, 1) || what == 1 && (!in(k, 0, 7) || !in(figure, 0, 9))) {
            return -1;
        }
        shelves[d].row = null;
        shelves[d].beast = what == 0 ? null : new int[] {k, figure};
        return 0;
    }

    private long row(int d, int sort, int n) {
        if (!in(d, 0, 7) || !in(sort, 0, 2) || n > 100) {
            return -1;
        }
        if (n < 0) {
            return -14;
        }
        shelves[d].beast = null;
        shelves[d].kind = sort;
        shelves[d].row = new int[n];
        return 0;
    }

    private long put(int d, int i, int v) {
        if (!in(d, 0, 7)) {
            return -1;
        }
        Board s = shelves[d];
        if (s.refusalOfRow() != 0) {
            return s.refusalOfRow();
        }
        if (!in(i, 0, s.row.length - 1)) {
            return -13;
        }
        s.row[i] = s.kind == 0 ? (byte) v : s.kind == 1 ? (short) v : v;
        return 0;
    }

    /** What element answers; one above all ints, or two, for its exceptions. */
    private long element(int d, int i) {
        if (!in(d, 0, 7)) {
            return Long.MAX_VALUE - 1;
        }
        int[] row = shelves[d].row;
        return row == null || !in(i, 0, row.length - 1) ? Long.MAX_VALUE - 2 : row[i];
    }

    private long copy(int d, int i, int e, int j, int n) {
        if (!in(d, 0, 7) || !in(e, 0, 7)) {
            return -1;
        }
        Board from = shelves[d];
        Board to = shelves[e];
        if (from.refusalOfRow() == -11 || to.refusalOfRow() == -11) {
            return -11;
        }
        if (from.row == null || to.row == null || from.kind != to.kind) {
            return -12;
        }
        if (n < 0 || i < 0 || j < 0 || (long) i + n > from.row.length || (long) j + n > to.row.length) {
            return -13;
        }
        int[] taken = Arrays.copyOfRange(from.row, i, i + n);
        for (int k = 0; k < n; k++) {
            to.row[j + k] = taken[k];
        }
        return n;
    }

    private long cost(int d) {
        if (!in(d, 0, 7)) {
            return -1;
        }
        int refusal = shelves[d].refusalOfBeast();
        return refusal != 0 ? refusal : SORTS.get(shelves[d].beast[0]).cost(shelves[d].beast[1]);
    }

    private long toss(int d) {
        if (!in(d, 0, 7)) {
            return -1;
        }
        int refusal = shelves[d].refusalOfBeast();
        if (refusal != 0) {
            return refusal;
        }
        Integer failure = SORTS.get(shelves[d].beast[0]).failure(shelves[d].beast[1]);
        return failure == null ? -15 : failure;
    }
}
