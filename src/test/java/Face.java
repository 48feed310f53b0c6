import java.lang.reflect.Array;
import java.lang.reflect.Constructor;
import java.lang.reflect.Field;
import java.lang.reflect.Member;
import java.lang.reflect.Method;
import java.lang.reflect.Modifier;
import java.nio.file.Files;
import java.nio.file.Path;
import java.util.ArrayList;
import java.util.Collections;
import java.util.IdentityHashMap;
import java.util.List;
import java.util.Set;
import java.util.TreeSet;
import java.util.regex.Matcher;
import java.util.regex.Pattern;

/** The document's face, and those rules of LANGUAGE.md that can be seen from the class and its text. */
public final class Face {
    private static final Path SOURCE = Path.of("src/main/java/OneAlwaysUp.java");
    private static final String[] METHODS = {
        "int come(int, int, int)", "int set(int, int, int, int)", "int law(int, int, int)", "int told(int, int, int)",
        "int master(int, int)", "int feed(int)", "int text()", "int force(int)", "int up(int, int)", "int at(int)", "int plan(int)",
        "int least(int)", "int lay()", "int fewest()", "int run(int, int)", "int follow(int)", "int way(int, int)", "int fourth(int)",
        "int late(int)", "int blame(int)", "int judge(int)", "int who(int)", "int drawn(int)", "long chance(int, int, int)",
        "int image()", "int back()", "int count(int)", "int sheet(int, int, int)", "int cell(int, int, int)",
        "int copy(int, int, int, int, int)", "int comes(int, int, int, int)", "int taken(int, int)"};
    private static final String[] CONSTANTS = {"int NONE", "int BAD", "int STATE", "int FULL", "long NO"};
    private static int wrong = 0;

    public static void main(String[] args) throws Exception {
        face();
        classes();
        words();
        methods();
        room();
        System.out.println(wrong == 0 ? "the face is as due" : wrong + " things are not as due");
        if (wrong != 0) {
            System.exit(1);
        }
    }

    private static void due(boolean holds, String what) {
        if (!holds) {
            wrong++;
            System.out.println("not as due: " + what);
        }
    }

    private static String said(Method m) {
        StringBuilder b = new StringBuilder(m.getReturnType().getSimpleName() + " " + m.getName() + "(");
        for (Class<?> type : m.getParameterTypes()) {
            b.append(b.charAt(b.length() - 1) == '(' ? "" : ", ").append(type.getSimpleName());
        }
        return b.append(")").toString();
    }

    private static boolean isSeen(Member m) {
        return !Modifier.isPrivate(m.getModifiers());
    }

    private static void face() {
        Class<?> c = OneAlwaysUp.class;
        due(Modifier.isPublic(c.getModifiers()) && Modifier.isFinal(c.getModifiers()), "the class is public and final");
        TreeSet<String> seen = new TreeSet<>();
        for (Method m : c.getDeclaredMethods()) {
            if (isSeen(m)) {
                seen.add(said(m));
                due(Modifier.isPublic(m.getModifiers()) && !Modifier.isStatic(m.getModifiers()), said(m));
            }
        }
        due(seen.equals(new TreeSet<>(List.of(METHODS))), "the methods: " + seen);
        seen.clear();
        for (Field f : c.getDeclaredFields()) {
            if (isSeen(f)) {
                seen.add(f.getType().getSimpleName() + " " + f.getName());
                due(f.getModifiers() == (Modifier.PUBLIC | Modifier.STATIC | Modifier.FINAL), f.getName());
            }
        }
        due(seen.equals(new TreeSet<>(List.of(CONSTANTS))), "the constants: " + seen);
        Constructor<?>[] made = c.getDeclaredConstructors();
        due(made.length == 1 && Modifier.isPublic(made[0].getModifiers()) && made[0].getParameterCount() == 0, "the constructor");
    }

    private static void classes() {
        List<Class<?>> all = new ArrayList<>(List.of(OneAlwaysUp.class.getDeclaredClasses()));
        due(all.size() < 12, "classes: " + all.size());
        for (Class<?> c : all) {
            due(Modifier.isStatic(c.getModifiers()) && !Modifier.isPublic(c.getModifiers()), c.getName());
        }
        all.add(OneAlwaysUp.class);
        TreeSet<String> open = new TreeSet<>();
        for (String m : METHODS) {
            open.add(m.substring(m.indexOf(' ') + 1, m.indexOf('(')));
        }
        for (Class<?> c : all) {
            int fields = 0;
            for (Field f : c.getDeclaredFields()) {
                boolean isStatic = Modifier.isStatic(f.getModifiers());
                fields += isStatic ? 0 : 1;
                due(!isStatic || Modifier.isFinal(f.getModifiers()), "a static field that changes: " + f);
            }
            due(fields <= 20, "fields of " + c.getName() + ": " + fields);
            for (Method m : c.getDeclaredMethods()) {
                due(m.getParameterCount() <= 7, "parameters of " + m);
                due(c == OneAlwaysUp.class && Modifier.isPublic(m.getModifiers()) || !open.contains(m.getName()), "a public name: " + m);
            }
        }
    }

    private static String bare(String source) {
        return source.replaceAll("(?s)/\\*.*?\\*/", "").replaceAll("//[^\n]*", "").replaceAll("\"[^\"\n]*\"", "\"\"");
    }

    private static void words() throws Exception {
        String source = Files.readString(SOURCE);
        for (int i = 0; i < source.length(); i++) {
            due(source.charAt(i) < 128, "a sign above 127 at " + i);
        }
        String bare = bare(source);
        Matcher m = Pattern.compile("\\b(throws?|try|catch|synchronized|assert|package|instanceof|native|volatile|transient)\\b|->|::|Exact\\b|@").matcher(bare);
        while (m.find()) {
            due(false, "the word " + m.group());
        }
        for (String line : bare.split("\n")) {
            due(!line.startsWith("import ") || line.equals("import java.util.Arrays;"), line);
            // what a call makes stays in the room for good, so that only a new object makes anything
            boolean isField = line.matches("\\s+(private )?final [A-Za-z\\[\\]]+ \\w+ = new .*;");
            boolean isFilling = line.matches("\\s+(texts|sheets)\\[i\\] = new \\w+\\(\\);");
            due(!line.matches(".*\\bnew\\b.*") || isField || isFilling, "made in a call: " + line);
            due(line.length() <= 130, "a long line: " + line);
        }
    }

    private static void methods() throws Exception {
        int begun = 0;
        int n = 0;
        for (String line : Files.readAllLines(SOURCE)) {
            n++;
            if (line.matches("(    |        )[A-Za-z].*\\) \\{")) {
                begun = n;
            }
            if (line.matches("(    |        )\\}") && begun > 0) {
                due(n - begun < 60, "a method of " + (n - begun + 1) + " lines at " + begun);
                begun = 0;
            }
        }
    }

    /** The room of a run has place for as many new objects as an object has calls. */
    private static void room() throws Exception {
        Set<Object> things = Collections.newSetFromMap(new IdentityHashMap<>());
        int parts = partsOf(new OneAlwaysUp(), things);
        due(things.size() <= 600000 / 512, "objects and arrays of one: " + things.size());
        due(parts <= 7300000 / 512, "fields and elements of one: " + parts);
    }

    private static int partsOf(Object thing, Set<Object> seen) throws Exception {
        if (thing == null || thing instanceof String || !seen.add(thing)) {
            return 0;
        }
        int parts = 0;
        if (thing.getClass().isArray()) {
            parts = Array.getLength(thing);
            for (int i = 0; i < Array.getLength(thing) && thing instanceof Object[]; i++) {
                parts += partsOf(Array.get(thing, i), seen);
            }
            return parts;
        }
        for (Field f : thing.getClass().getDeclaredFields()) {
            if (!Modifier.isStatic(f.getModifiers())) {
                f.setAccessible(true);
                parts += 1 + (f.getType().isPrimitive() ? 0 : partsOf(f.get(thing), seen));
            }
        }
        return parts;
    }
}
