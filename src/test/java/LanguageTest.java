import java.io.IOException;
import java.lang.reflect.Constructor;
import java.lang.reflect.Field;
import java.lang.reflect.Method;
import java.lang.reflect.Modifier;
import java.nio.file.Files;
import java.nio.file.Path;
import java.util.ArrayList;
import java.util.Collections;
import java.util.HashMap;
import java.util.HashSet;
import java.util.List;
import java.util.Map;
import java.util.Set;
import java.util.regex.Matcher;
import java.util.regex.Pattern;

/** The face of the document, and those rules of LANGUAGE.md that can be looked at without a compiler of one's own. */
public final class LanguageTest {
    private static final String SOURCE = "src/main/java/FallowFerry.java";
    private static final String[] FACE = {
        "int type(long,int)", "int clear()", "int river()", "int thing(int,int)", "int now(int)", "int cross(int)",
        "int rest()", "int night()", "int slide(int)", "int undo()", "int lot(int)", "int done(int)",
        "int rent(int,int)", "int least()", "int sooner(int)", "int standings()", "int saw(int,int,int)",
        "int forget()", "long fits(int,int)", "long owed(int,int)", "int mark(int,int)", "int keep(int)",
        "int back(int)", "int count(int)", "long trace()"};
    private static final String[] RULED_OUT = {
        "throw", "throws", "try", "catch", "finally", "synchronized", "assert", "volatile", "transient", "native",
        "Object", "HashMap", "HashSet", "Random", "Thread", "Runtime", "Process", "File", "Files", "hashCode"};
    private static final List<String> IMPORTS =
        List.of("java.util.Arrays", "java.util.ArrayList", "java.util.List", "java.util.Iterator");

    private static final int METHOD_MOST = 60;
    private static final int DEEP_MOST = 8;
    private static final List<String> NO_CALLS = List.of("if", "for", "while", "switch");

    private final Checks checks = new Checks();

    public static void main(String[] args) throws IOException {
        LanguageTest t = new LanguageTest();
        t.constants();
        t.face();
        t.classesInside();
        String source = withoutCommentsAndTexts(Files.readString(Path.of(SOURCE)));
        t.words(source);
        t.methods(bodies(source));
        t.checks.end();
    }

    private void constants() {
        checks.due("BAD", FallowFerry.BAD, -1);
        checks.due("STATE", FallowFerry.STATE, -2);
        checks.due("FULL", FallowFerry.FULL, -3);
        checks.due("NONE", FallowFerry.NONE, -9);
        checks.due("NO", FallowFerry.NO, -1000000);
    }

    private void face() {
        List<String> open = new ArrayList<>();
        Set<String> names = new HashSet<>();
        for (Method m : FallowFerry.class.getDeclaredMethods()) {
            if (Modifier.isPrivate(m.getModifiers())) continue;
            String kinds = "";
            for (Class<?> kind : m.getParameterTypes()) kinds += (kinds.isEmpty() ? "" : ",") + kind;
            open.add(m.getReturnType() + " " + m.getName() + "(" + kinds + ")");
            names.add(m.getName());
            checks.due(m + " is public alone", m.getModifiers(), Modifier.PUBLIC);
        }
        List<String> face = new ArrayList<>(List.of(FACE));
        Collections.sort(open);
        Collections.sort(face);
        checks.due("the face is the document's: " + open, open.equals(face) ? 1 : 0, 1);
        for (Method m : FallowFerry.class.getDeclaredMethods()) {
            boolean hidden = Modifier.isPrivate(m.getModifiers()) && names.contains(m.getName());
            checks.due("private with a public name: " + m, hidden ? 1 : 0, 0);
        }
        for (Field f : FallowFerry.class.getDeclaredFields()) {
            boolean constant = List.of("BAD", "STATE", "FULL", "NONE", "NO").contains(f.getName());
            checks.due("field " + f, Modifier.isPrivate(f.getModifiers()) == constant ? 1 : 0, 0);
        }
        Constructor<?>[] makers = FallowFerry.class.getDeclaredConstructors();
        checks.due("constructors", makers.length, 1);
        checks.due("constructor's parameters", makers[0].getParameterCount(), 0);
        checks.due("constructor is public", makers[0].getModifiers(), Modifier.PUBLIC);
        checks.due("class is public and final", FallowFerry.class.getModifiers(), Modifier.PUBLIC | Modifier.FINAL);
    }

    private void classesInside() {
        List<Class<?>> all = new ArrayList<>(List.of(FallowFerry.class.getDeclaredClasses()));
        for (Class<?> inside : all) {
            checks.due(inside + " is static", Modifier.isStatic(inside.getModifiers()) ? 1 : 0, 1);
            checks.due(inside + " is not public", Modifier.isPublic(inside.getModifiers()) ? 1 : 0, 0);
        }
        all.add(FallowFerry.class);
        checks.due("at most twelve classes", all.size() <= 12 ? 1 : 0, 1);
        for (Class<?> one : all) {
            int fields = 0;
            for (Field f : one.getDeclaredFields()) {
                if (!Modifier.isStatic(f.getModifiers())) fields++;
                boolean settled = !Modifier.isStatic(f.getModifiers()) || Modifier.isFinal(f.getModifiers());
                checks.due("static fields are final: " + f, settled ? 1 : 0, 1);
            }
            checks.due(one + " has at most twenty fields", fields <= 20 ? 1 : 0, 1);
            for (Method m : one.getDeclaredMethods()) {
                checks.due(m + " takes at most seven", m.getParameterCount() <= 7 ? 1 : 0, 1);
            }
        }
    }

    private void words(String source) {
        Set<String> used = new HashSet<>();
        Matcher m = Pattern.compile("[A-Za-z_]+").matcher(source);
        while (m.find()) used.add(m.group());
        for (String word : RULED_OUT) checks.due("word " + word, used.contains(word) ? 1 : 0, 0);
        checks.due("no lambda", source.contains("->") ? 1 : 0, 0);
        checks.due("no method reference", source.contains("::") ? 1 : 0, 0);
        checks.due("no package line", used.contains("package") ? 1 : 0, 0);
        Matcher imports = Pattern.compile("import ([^;]+);").matcher(source);
        while (imports.find()) {
            checks.due("import " + imports.group(1), IMPORTS.contains(imports.group(1)) ? 1 : 0, 1);
        }
        Matcher calls = Pattern.compile("\\b(Math|Integer|Long|Arrays|System)\\.(\\w+)").matcher(source);
        while (calls.find()) {
            checks.due("library's " + calls.group(), isListed(calls.group(1), calls.group(2)) ? 1 : 0, 1);
        }
    }

    private static boolean isListed(String library, String call) {
        switch (library) {
            case "System": return call.equals("arraycopy");
            case "Arrays": return List.of("copyOf", "copyOfRange", "fill").contains(call);
            default: return !call.endsWith("Exact") && !call.equals("random");
        }
    }

    // ---- how long methods are, how deep calls go (rules 8 and 11)

    private void methods(Map<String, List<String>> bodies) {
        checks.due("methods are found", bodies.size() > FACE.length ? 1 : 0, 1);
        for (String name : bodies.keySet()) {
            for (String body : bodies.get(name)) {
                long lines = body.lines().count();
                checks.due(name + " is short, " + lines + " lines", lines <= METHOD_MOST ? 1 : 0, 1);
            }
            int depth = depth(name, bodies, 0);
            checks.due(name + " goes " + depth + " deep", depth <= DEEP_MOST ? 1 : 0, 1);
        }
    }

    /** Methods of one name are taken together: what is told is too much, if anything. A recursion has no end here. */
    private static int depth(String name, Map<String, List<String>> bodies, int guard) {
        if (guard > 2 * DEEP_MOST) return guard;
        int deepest = 0;
        for (String body : bodies.getOrDefault(name, List.of())) {
            Matcher calls = Pattern.compile("(\\w+)\\(").matcher(body);
            while (calls.find()) {
                if (NO_CALLS.contains(calls.group(1))) continue;
                deepest = Math.max(deepest, depth(calls.group(1), bodies, guard + 1));
            }
        }
        return deepest + 1;
    }

    /** The bodies of all methods of a name, from { to }. */
    private static Map<String, List<String>> bodies(String source) {
        Map<String, List<String>> all = new HashMap<>();
        Matcher heads = Pattern.compile("(\\w+)\\([^()]*\\) \\{").matcher(source);
        while (heads.find()) {
            if (NO_CALLS.contains(heads.group(1))) continue;
            int from = heads.end() - 1;
            int to = from;
            int open = 0;
            do {
                open += source.charAt(to) == '{' ? 1 : source.charAt(to) == '}' ? -1 : 0;
                to++;
            } while (open > 0);
            all.computeIfAbsent(heads.group(1), name -> new ArrayList<>()).add(source.substring(from, to));
        }
        return all;
    }

    private static String withoutCommentsAndTexts(String source) {
        return source.replaceAll("(?s)/\\*.*?\\*/", "").replaceAll("//[^\n]*", "").replaceAll("\"[^\"]*\"", "\"\"");
    }
}
