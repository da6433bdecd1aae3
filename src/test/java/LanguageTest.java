import java.io.IOException;
import java.lang.reflect.Constructor;
import java.lang.reflect.Field;
import java.lang.reflect.Method;
import java.lang.reflect.Modifier;
import java.nio.charset.StandardCharsets;
import java.nio.file.Files;
import java.nio.file.Path;
import java.util.ArrayList;
import java.util.LinkedHashMap;
import java.util.List;
import java.util.Map;
import java.util.Set;
import java.util.TreeSet;
import java.util.regex.Matcher;
import java.util.regex.Pattern;

/** The rules of LANGUAGE.md, as far as they can be seen from the text and the shape of the class. */
public final class LanguageTest {
    private static final Set<String> FACE = new TreeSet<>(List.of("mountain", "beast", "person", "comes", "stands",
        "walks", "calls", "answers", "tongue", "means", "days", "beastThen", "personThen", "named", "dies", "ruined",
        "still", "next", "name", "cover", "letGo", "stand", "least", "exchange", "teach", "of", "nearest", "whatIs",
        "whereFrom", "whose", "two", "snow", "share", "forged", "judge", "mountains", "image", "restore", "count",
        "keep", "row", "put", "element", "copy", "cost", "toss"));

    /** How many numbers each call takes. */
    private static final String PARAMETERS = " mountain:1 beast:2 person:2 comes:2 stands:2 walks:2 calls:2 answers:1"
        + " tongue:2 means:2 days:1 beastThen:3 personThen:3 named:2 dies:1 ruined:1 still:0 next:1 name:3 cover:2"
        + " letGo:2 stand:3 least:2 exchange:1 teach:3 of:1 nearest:1 whatIs:3 whereFrom:2 whose:2 two:3 snow:4 share:2"
        + " forged:1 judge:1 mountains:3 image:0 restore:0 count:1 keep:4 row:3 put:3 element:2 copy:5 cost:1 toss:1 ";

    private static final Set<String> LIBRARY = Set.of("Math.abs", "Math.min", "Math.max", "Integer.bitCount",
        "System.arraycopy", "Arrays.fill");

    private static final Pattern HEAD = Pattern.compile("(?m)^( {4}| {8})((?:public |private |static |final )*)"
        + "([\\w\\[\\]]+ )?(\\w+)\\(([^)]*)\\)[^;{]*\\{$");

    private static final Map<String, String> BODIES = new LinkedHashMap<>();

    public static void main(String[] args) throws IOException {
        Path source = Path.of(args.length > 0 ? args[0] : "src/main/java/WhoeverNamesIt.java");
        String whole = Files.readString(source, StandardCharsets.UTF_8);
        String code = bare(whole);
        shape();
        words(code);
        library(code);
        methods(code);
        depths();
        exceptions();
        Due.end("LanguageTest");
    }

    private static void rule(int number, boolean kept, String what) {
        if (!kept) {
            Due.fault("rule " + number + ": " + what);
        }
    }

    /** The text without comments, and with nothing in its strings. */
    private static String bare(String whole) {
        String code = whole.replaceAll("(?s)/\\*.*?\\*/", "").replaceAll("(?m)//.*$", "");
        rule(3, whole.chars().allMatch(c -> c < 128), "signs are plain");
        return code.replaceAll("\"[^\"\n]*\"", "\"\"").replaceAll("'[^'\n]'", "'x'");
    }

    private static void shape() {
        Class<?> c = WhoeverNamesIt.class;
        rule(1, Modifier.isPublic(c.getModifiers()) && Modifier.isFinal(c.getModifiers()), "public and final");
        Set<String> open = new TreeSet<>();
        for (Method m : c.getDeclaredMethods()) {
            if (Modifier.isPublic(m.getModifiers())) {
                open.add(m.getName());
                rule(1, !Modifier.isStatic(m.getModifiers()), m.getName() + " is static");
                signature(m);
            } else {
                rule(1, Modifier.isPrivate(m.getModifiers()), m.getName() + " is neither public nor private");
                rule(1, !FACE.contains(m.getName()), m.getName() + " bears the name of a public one");
            }
        }
        rule(1, c.getMethods().length == FACE.size() + Object.class.getMethods().length, "a name stands for two");
        rule(1, open.equals(FACE), "the public methods are not those of the document: " + open);
        for (Field f : c.getDeclaredFields()) {
            rule(1, Modifier.isPrivate(f.getModifiers()), f.getName() + " is not private");
            rule(5, !Modifier.isStatic(f.getModifiers()) || Modifier.isFinal(f.getModifiers()), f.getName());
        }
        for (Constructor<?> k : c.getDeclaredConstructors()) {
            rule(1, Modifier.isPublic(k.getModifiers()) && k.getParameterCount() == 0, "constructors");
        }
        rule(11, c.getDeclaredClasses().length <= 11, "too many classes");
        fields(c);
        for (Class<?> n : c.getDeclaredClasses()) {
            fields(n);
            rule(1, Modifier.isStatic(n.getModifiers()) && !Modifier.isPublic(n.getModifiers()), n.getName());
            for (Method m : n.getDeclaredMethods()) {
                rule(1, !FACE.contains(m.getName()), m.getName() + " bears the name of a public one");
            }
            for (Field f : n.getDeclaredFields()) {
                rule(5, !Modifier.isStatic(f.getModifiers()) || Modifier.isFinal(f.getModifiers()), f.getName());
            }
        }
    }

    /** Numbers alone go in and come out, longs of three; element alone tells of exceptions; no name stands for two. */
    private static void signature(Method m) {
        String name = m.getName();
        Class<?> answer = Set.of("snow", "share", "element").contains(name) ? long.class : int.class;
        rule(1, m.getReturnType() == answer, name + " answers " + m.getReturnType());
        rule(1, Set.of(m.getExceptionTypes()).equals(name.equals("element")
            ? Set.of(IllegalArgumentException.class, IllegalStateException.class) : Set.of()), name + " throws");
        StringBuilder types = new StringBuilder();
        for (Class<?> type : m.getParameterTypes()) {
            types.append(type == int.class ? "i" : "?");
        }
        int parameters = PARAMETERS.indexOf(" " + name + ":");
        rule(1, parameters >= 0 && types.toString().equals("iiiii".substring(0,
            PARAMETERS.charAt(parameters + name.length() + 2) - '0')), name + " takes " + types);
    }

    private static void words(String code) {
        for (String word : new String[] {"->", "::", "\\bfinally\\b", "\\bsynchronized\\b", "\\bassert\\b",
            "\\bprotected\\b", "\\bvar\\b", "\\bpackage\\b", "\\bnative\\b", "\\bvolatile\\b", "\\bThread\\b",
            "\\bgetMessage\\b", "\\bordinal\\b", "\\bequals\\b", "\\bhashCode\\b", "\\btoString\\b", "Exact\\b",
            "@", "\\bdouble\\b", "\\bfloat\\b", "\\bstatic \\{", "\"\" *\\+", "\\+ *\"\"", "\\bwhile \\(true\\)",
            "\\bfor \\(;;\\)", "\\bRuntimeException\\b", "\\bThrowable\\b", "\\bException\\b"}) {
            rule(4, !Pattern.compile(word).matcher(code).find(), "the text has " + word);
        }
    }

    private static void library(String code) {
        Matcher imported = Pattern.compile("(?m)^import (.*);$").matcher(code);
        while (imported.find()) {
            rule(4, imported.group(1).equals("java.util.Arrays"), "imports " + imported.group(1));
        }
        Matcher used = Pattern.compile("\\b(Math|Integer|Long|System|Arrays|String|Character|Byte|Short)\\.(\\w+)")
            .matcher(code);
        while (used.find()) {
            String name = used.group(1) + "." + used.group(2);
            rule(4, LIBRARY.contains(name), "uses " + name);
        }
        Matcher made = Pattern.compile("\\bnew (\\w+)").matcher(code);
        while (made.find()) {
            rule(4, Set.of("Mountain", "Shelf", "int", "IllegalArgumentException", "IllegalStateException",
                "UnsupportedOperationException").contains(made.group(1)), "makes " + made.group(1));
        }
    }

    private static void methods(String code) {
        String[] lines = code.split("\n", -1);
        Matcher head = HEAD.matcher(code);
        while (head.find()) {
            String name = head.group(4);
            if (Set.of("if", "for", "while", "switch", "catch").contains(name)) {
                continue;
            }
            int first = code.substring(0, head.start()).split("\n", -1).length;
            int last = first;
            while (!lines[last].equals(head.group(1) + "}")) {
                last++;
            }
            rule(11, last - first + 2 <= 60, name + " has " + (last - first + 2) + " lines");
            rule(11, head.group(5).split(",").length <= 7, name + " takes too many");
            StringBuilder body = new StringBuilder();
            for (int i = first; i < last; i++) {
                body.append(lines[i]).append('\n');
            }
            rule(8, !BODIES.containsKey(name), "two methods bear the name " + name);
            BODIES.put(name, body.toString());
        }
        rule(1, BODIES.keySet().containsAll(FACE), "the methods were not all found");
    }

    private static void fields(Class<?> c) {
        int fields = 0;
        for (Field f : c.getDeclaredFields()) {
            fields += Modifier.isStatic(f.getModifiers()) ? 0 : 1;
        }
        rule(11, fields <= 20, c.getName() + " has " + fields + " fields");
    }

    private static void depths() {
        for (String name : BODIES.keySet()) {
            int depth = depth(name, new ArrayList<>());
            rule(11, depth <= 8, name + " goes " + depth + " deep");
        }
    }

    private static int depth(String name, List<String> open) {
        if (open.contains(name)) {
            rule(8, false, "calls itself: " + open + " " + name);
            return 1;
        }
        open.add(name);
        int below = 0;
        Matcher call = Pattern.compile("\\b(\\w+\\.)?(\\w+)\\(").matcher(BODIES.get(name));
        while (call.find()) {
            if (BODIES.containsKey(call.group(2))) {
                below = Math.max(below, depth(call.group(2), open));
            } else if (call.group(1) != null && LIBRARY.contains(call.group(1) + call.group(2))) {
                below = Math.max(below, 1);
            }
        }
        open.remove(open.size() - 1);
        return below + 1;
    }

    private static void exceptions() {
        for (Map.Entry<String, String> method : BODIES.entrySet()) {
            String body = method.getValue();
            boolean throwing = Pattern.compile("\\bthrow\\b").matcher(body).find();
            rule(6, !throwing || !Pattern.compile("\\btry\\b").matcher(body).find(), method.getKey() + " has both");
            rule(6, !throwing || Set.of("element", "fail").contains(method.getKey()), method.getKey() + " throws");
            Matcher caught = Pattern.compile("catch \\((\\w+) \\w+\\)").matcher(body);
            while (caught.find()) {
                rule(6, Set.of("IllegalArgumentException", "IllegalStateException", "UnsupportedOperationException")
                    .contains(caught.group(1)), method.getKey() + " catches " + caught.group(1));
            }
        }
    }
}
