import java.lang.reflect.Constructor;
import java.lang.reflect.Field;
import java.lang.reflect.Method;
import java.lang.reflect.Modifier;
import java.nio.charset.StandardCharsets;
import java.nio.file.Files;
import java.nio.file.Path;
import java.util.HashSet;
import java.util.Set;
import java.util.TreeSet;
import java.util.regex.Matcher;
import java.util.regex.Pattern;

/** What of LANGUAGE.md can be seen from outside or in the source's words. */
public final class LanguageTest {
    private static final String[] FACE = {
        "person(int)", "personIs(int,int)", "become(int,int)", "as(int,int)", "gate(int,int,int)", "gateIs(int,int)",
        "hold(int,int)", "pass(int,int)", "stock(int)", "stockAt(int)", "grass(int,int)", "feed(long,int)", "text(int)",
        "untell(int)", "law(int,int,int,int)", "hours(int)", "loose(int)", "hour(int)", "seed(int)", "then(int,int)",
        "first(int)", "fewest()", "way(int,int)", "cut(int,int,int)", "roams(int)", "odds(int,int)", "fits(int)",
        "voice(int,int,int)", "body(int)", "sheet(int,int,int)", "put(int,int,int)", "move(int,int,int,int,int)",
        "holds(int)", "judge(int)", "image()", "restore()", "tell(int)", "check()", "count(int)", "told(int)"
    };
    private static final String[] FORBIDDEN = {
        "\\bthrows?\\b", "\\btry\\b", "\\bcatch\\b", "\\bsynchronized\\b", "\\bassert\\b", "->", "::", "\\bpackage\\b",
        "\\bimport\\b", "\\bnative\\b", "\\bvar\\b", "Exact\\(", "\\bObject\\b", "\\bvolatile\\b", "\\byield\\b"
    };
    private static int wrong = 0;

    public static void main(String[] args) throws Exception {
        face();
        members(GateMinds.class);
        for (Class<?> inside : GateMinds.class.getDeclaredClasses()) inside(inside);
        source(Files.readString(Path.of(args[0]), StandardCharsets.ISO_8859_1));
        System.out.println(wrong == 0 ? "the language is kept to" : wrong + " rules broken");
        if (wrong != 0) System.exit(1);
    }

    private static void must(boolean ok, String what) {
        if (ok) return;
        wrong++;
        System.out.println(what);
    }

    private static void face() {
        int mods = GateMinds.class.getModifiers();
        must(Modifier.isPublic(mods) && Modifier.isFinal(mods), "the class is not public and final");
        Set<String> due = new TreeSet<>(Set.of(FACE));
        Set<String> got = new TreeSet<>();
        for (Method m : GateMinds.class.getDeclaredMethods()) {
            if (Modifier.isPrivate(m.getModifiers())) continue;
            must(Modifier.isPublic(m.getModifiers()) && m.getReturnType() == int.class, m + " is not of the face");
            got.add(signature(m));
        }
        must(due.equals(got), "the face is " + got + ", due is " + due);
        Constructor<?>[] made = GateMinds.class.getDeclaredConstructors();
        must(made.length == 1 && made[0].getParameterCount() == 0 && Modifier.isPublic(made[0].getModifiers()), "constructors");
    }

    private static String signature(Method m) {
        StringBuilder s = new StringBuilder(m.getName()).append('(');
        for (Class<?> type : m.getParameterTypes()) s.append(s.charAt(s.length() - 1) == '(' ? "" : ",").append(type.getName());
        return s.append(')').toString();
    }

    private static void inside(Class<?> inside) {
        int mods = inside.getModifiers();
        must(Modifier.isStatic(mods) && !Modifier.isPublic(mods) && !Modifier.isProtected(mods), inside + " is not static and hidden");
        Set<String> names = new HashSet<>();
        for (String s : FACE) names.add(s.substring(0, s.indexOf('(')));
        for (Method m : inside.getDeclaredMethods()) must(!names.contains(m.getName()), m + " bears a public name");
        members(inside);
    }

    private static void members(Class<?> type) {
        int fields = 0;
        for (Field f : type.getDeclaredFields()) {
            boolean fixed = Modifier.isStatic(f.getModifiers());
            must(!fixed || Modifier.isFinal(f.getModifiers()), f + " is static and not final");
            must(type != GateMinds.class || Modifier.isPrivate(f.getModifiers()), f + " is not private");
            if (!fixed) fields++;
        }
        must(fields <= 20, type + " has " + fields + " fields");
        Set<String> shown = new HashSet<>();
        for (Method m : type.getDeclaredMethods()) {
            must(m.getParameterCount() <= 7, m + " takes too much");
            if (type == GateMinds.class && Modifier.isPublic(m.getModifiers())) shown.add(m.getName());
        }
        for (Method m : type.getDeclaredMethods()) {
            must(!Modifier.isPrivate(m.getModifiers()) || !shown.contains(m.getName()), m + " bears a public name");
        }
    }

    private static void source(String text) {
        for (int i = 0; i < text.length(); i++) must(text.charAt(i) < 127, "sign " + (int) text.charAt(i) + " at " + i);
        String code = text.replaceAll("(?s)/\\*.*?\\*/", " ").replaceAll("//[^\n]*", " ");
        code = code.replaceAll("'(\\\\.|[^'\\\\])'", "' '").replaceAll("\"(\\\\.|[^\"\\\\])*\"", "\" \"");
        for (String word : FORBIDDEN) {
            Matcher m = Pattern.compile(word).matcher(code);
            must(!m.find(), "the source has " + word);
        }
        // the library's names that the class needs; a new one is added here when LANGUAGE.md lists it
        Matcher used = Pattern.compile("\\b(System|Math|Integer|Long|Arrays|Character|Boolean|Thread|Random|String)\\.(\\w+)").matcher(code);
        Set<String> allowed = Set.of("System.arraycopy", "Math.max", "Math.min", "Integer.bitCount");
        while (used.find()) must(allowed.contains(used.group()), "the source has " + used.group());
        int start = -1;
        String[] lines = text.split("\n");
        for (int i = 0; i < lines.length; i++) {
            if (lines[i].matches("( {4}| {8})\\S.*\\) \\{")) start = i;
            if (start >= 0 && lines[i].matches("( {4}| {8})}")) {
                must(i - start < 60, "the method of line " + (start + 1) + " is long");
                start = -1;
            }
        }
    }
}
