import java.io.IOException;
import java.lang.reflect.Constructor;
import java.lang.reflect.Field;
import java.lang.reflect.Member;
import java.lang.reflect.Method;
import java.lang.reflect.Modifier;
import java.nio.file.Files;
import java.nio.file.Path;
import java.util.Map;
import java.util.Set;
import java.util.TreeMap;
import java.util.TreeSet;
import java.util.regex.Matcher;
import java.util.regex.Pattern;

/** The face of the class and what ../shared/LANGUAGE.md asks of its file, as far as it can be read off. */
public final class RulesTest {
    private static final Set<String> FACE = new TreeSet<>(Set.of(
        "int feed(int,long)", "int town()", "int fault()", "int told(int)", "int part(int,int)", "int scene(int,int)",
        "int look(int,int)", "int law(int)", "int price(int,int)", "int width(int,int)", "int cheapest(int,int)",
        "int dressing(int)", "int rent(int)", "int without(int)", "int raise(int,int)", "int grow(int)",
        "int wedding(int,int)", "int see(int,int)", "int seen(int,int)", "int strange()", "int day(int)",
        "int drift(int)", "int write(int,int)", "int tear()", "int judge()", "int seed(int)", "int keep(int)",
        "int goBack(int)"));

    private static final String[] BARRED = {"throw", "try", "catch", "synchronized", "assert", "native", "volatile",
        "finalize", "Thread", "package"};

    private static final Set<String> LIBRARY = Set.of("Math.min", "Math.max", "Math.abs", "Integer.bitCount");

    private static final Pattern HEAD = Pattern.compile("(?m)^( {4}| {8})(public|private)[^=;(]*?(\\w+)\\([^=;]*\\) \\{\n");

    private static final Check CHECK = new Check("RulesTest");

    public static void main(String[] args) throws IOException {
        face();
        insideClasses();
        text(Files.readString(Path.of(args.length > 0 ? args[0] : "src/main/java/RentedLooks.java")));
        CHECK.close();
    }

    private static boolean isOpen(Member m) {
        return !Modifier.isPrivate(m.getModifiers()) && !m.isSynthetic();
    }

    private static void face() {
        Class<?> c = RentedLooks.class;
        CHECK.due("modifiers", c.getModifiers(), Modifier.PUBLIC | Modifier.FINAL);
        Set<String> methods = new TreeSet<>();
        for (Method m : c.getDeclaredMethods()) {
            if (isOpen(m)) {
                StringBuilder s = new StringBuilder(m.getReturnType() + " " + m.getName() + "(");
                for (Class<?> p : m.getParameterTypes()) {
                    s.append(s.charAt(s.length() - 1) == '(' ? "" : ",").append(p);
                }
                methods.add(s + ")");
                CHECK.due(m.getName(), m.getModifiers(), Modifier.PUBLIC);
            }
        }
        CHECK.holds("the methods are the face's: " + methods, methods.equals(FACE));
        int made = 0;
        for (Constructor<?> k : c.getDeclaredConstructors()) {
            CHECK.due("constructor", k.getModifiers(), Modifier.PUBLIC);
            CHECK.due("its parameters", k.getParameterCount(), 0);
            made++;
        }
        CHECK.due("constructors", made, 1);
        Set<String> constants = new TreeSet<>();
        for (Field f : c.getDeclaredFields()) {
            if (isOpen(f)) {
                constants.add(f.getName());
                CHECK.due(f.getName(), f.getModifiers(), Modifier.PUBLIC | Modifier.STATIC | Modifier.FINAL);
            }
        }
        CHECK.holds("the constants: " + constants, constants.equals(Set.of("NONE", "UNKNOWN", "OUTSIDE", "NOT", "FULL")));
    }

    private static void insideClasses() {
        Class<?>[] inside = RentedLooks.class.getDeclaredClasses();
        CHECK.holds("at most twelve classes", inside.length < 12);
        Set<String> names = new TreeSet<>();
        for (String f : FACE) {
            names.add(f.substring(4, f.indexOf('(')));
        }
        for (Class<?> c : inside) {
            CHECK.holds(c + " is static", Modifier.isStatic(c.getModifiers()));
            CHECK.holds(c + " is not public", !Modifier.isPublic(c.getModifiers()));
            fields(c);
            for (Method m : c.getDeclaredMethods()) {
                CHECK.holds(m + " bears no name of the face", !names.contains(m.getName()));
                CHECK.holds(m + " has few parameters", m.getParameterCount() <= 7);
            }
        }
        fields(RentedLooks.class);
    }

    private static void fields(Class<?> c) {
        int own = 0;
        for (Field f : c.getDeclaredFields()) {
            if (Modifier.isStatic(f.getModifiers())) {
                CHECK.holds(f + " is final", Modifier.isFinal(f.getModifiers()));
            } else {
                own++;
            }
        }
        CHECK.holds(c + " has few fields", own <= 20);
    }

    private static void text(String source) {
        for (int i = 0; i < source.length(); i++) {
            char ch = source.charAt(i);
            CHECK.holds("a plain sign at " + i, ch == '\n' || ch >= 32 && ch < 127);
        }
        String bare = source.replaceAll("(?s)/\\*.*?\\*/", "").replaceAll("//[^\n]*", "");
        for (String word : BARRED) {
            CHECK.holds("no " + word, !Pattern.compile("\\b" + word + "\\b").matcher(bare).find());
        }
        CHECK.holds("no lambda", !bare.contains("->"));
        CHECK.holds("no method reference", !bare.contains("::"));
        CHECK.holds("no annotation", !bare.contains("@"));
        libraryIsWhatMayBeUsed(bare);
        objectsAreMadeWithTheObject(bare);
        methodsAreShort(bare);
        callsAreNotDeep(bare);
    }

    private static void libraryIsWhatMayBeUsed(String bare) {
        Matcher calls = Pattern.compile("\\b[A-Z]\\w*\\.\\w+(?=\\()").matcher(bare);
        int found = 0;
        while (calls.find()) {
            CHECK.holds(calls.group() + " may be used", LIBRARY.contains(calls.group()));
            found++;
        }
        CHECK.holds("calls of the library were found", found > 0);
        for (String type : new String[] {"float", "double", "Object", "ArrayList", "System", "instanceof", "var"}) {
            CHECK.holds("no " + type, !Pattern.compile("\\b" + type + "\\b").matcher(bare).find());
        }
        CHECK.holds("no text is joined by +", !Pattern.compile("\"\\s*\\+|\\+\\s*\"").matcher(bare).find());
    }

    /** 'new' stands in field initialisers and in the public constructor alone: no call makes anything. */
    private static void objectsAreMadeWithTheObject(String bare) {
        int start = bare.indexOf("public RentedLooks()");
        int end = bare.indexOf("public int feed");
        for (int at = bare.indexOf("new "); at >= 0; at = bare.indexOf("new ", at + 1)) {
            int line = bare.lastIndexOf('\n', at) + 1;
            boolean isField = bare.substring(line, at).trim().startsWith("private final");
            CHECK.holds("'new' at " + at, isField || at > start && at < end);
        }
    }

    private static void methodsAreShort(String bare) {
        Matcher heads = HEAD.matcher(bare);
        int methods = 0;
        while (heads.find()) {
            String body = body(bare, heads);
            CHECK.holds(heads.group().trim() + " has an end", !body.isEmpty());
            CHECK.holds(heads.group().trim() + " is short", body.lines().count() <= 60);
            methods++;
        }
        CHECK.holds("methods were found", methods > 60);
    }

    private static String body(String bare, Matcher head) {
        int end = bare.indexOf("\n" + head.group(1) + "}\n", head.end() - 1);
        return end < 0 ? "" : bare.substring(head.end(), end);
    }

    /** By names alone, so two methods of one name count as one: what calls itself is found, too. */
    private static void callsAreNotDeep(String bare) {
        Map<String, Set<String>> calls = new TreeMap<>();
        Matcher heads = HEAD.matcher(bare);
        while (heads.find()) {
            Matcher names = Pattern.compile("(\\w+)\\(").matcher(body(bare, heads));
            Set<String> called = calls.computeIfAbsent(heads.group(3), n -> new TreeSet<>());
            while (names.find()) {
                called.add(names.group(1));
            }
        }
        for (String name : calls.keySet()) {
            int depth = depth(name, calls, 0);
            CHECK.holds(name + " goes " + depth + " deep", depth <= 8);
        }
    }

    private static int depth(String name, Map<String, Set<String>> calls, int above) {
        int deepest = 0;
        if (above < 20) {
            for (String called : calls.get(name)) {
                if (calls.containsKey(called)) {
                    deepest = Math.max(deepest, depth(called, calls, above + 1));
                }
            }
        }
        return deepest + 1;
    }
}
