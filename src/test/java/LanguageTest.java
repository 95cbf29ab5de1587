import java.io.File;
import java.io.PrintWriter;
import java.io.StringWriter;
import java.lang.reflect.Field;
import java.lang.reflect.Method;
import java.lang.reflect.Modifier;
import java.nio.file.Files;
import java.nio.file.Path;
import java.util.ArrayList;
import java.util.Arrays;
import java.util.HashMap;
import java.util.HashSet;
import java.util.List;
import java.util.Map;
import java.util.Set;
import java.util.TreeSet;
import java.util.regex.Matcher;
import java.util.regex.Pattern;
import java.util.spi.ToolProvider;

/** The rules of ../shared/LANGUAGE.md, as far as they can be seen from the source and from the class; run in the project's folder. */
public final class LanguageTest {
    private static final String FACE = "album() ask(int) back(int) before(int,int) bits(int,int) count(int) drop(int) erase() fault() find() "
            + "keep(int) knot(int) latest() left(int,int) length(int,int,int) load(int,int,int,int) loose(int) often(int,int) "
            + "order(int,int) orders() picture(int,int) piece(int,int,int) place(int,int) point(int,int,int) see(int,int,int) "
            + "set(int,int,int) strike(int,int) strip(int,int) sum(int) sun(int,int) thing(int,int) told(int,int) undo() "
            + "work(int,int,int,int) would(int,int,int) write(int)";
    private static final String LIBRARY = "Arrays.fill System.arraycopy Integer.bitCount Long.bitCount Long.numberOfLeadingZeros "
            + "Long.numberOfTrailingZeros Math.abs Math.floorMod Math.max Math.min";

    public static void main(String[] args) throws Exception {
        String source = Files.readString(Path.of("src/main/java/AlbumHours.java"));
        face();
        classes();
        methods();
        words(source);
        library(source);
        shortMethods(source);
        depth();
        Due.end();
    }

    private static void no(String what, boolean found) {
        Due.is(what, found ? 1 : 0, 0);
    }

    private static boolean isPrivate(int modifiers) {
        return Modifier.isPrivate(modifiers);
    }

    private static String signature(Method m) {
        List<String> types = new ArrayList<>();
        for (Class<?> t : m.getParameterTypes()) types.add(t.getSimpleName());
        return m.getName() + "(" + String.join(",", types) + ")";
    }

    private static void face() {
        Class<?> c = AlbumHours.class;
        Due.is("rule 1: public and final", c.getModifiers() & (Modifier.PUBLIC | Modifier.FINAL), Modifier.PUBLIC | Modifier.FINAL);
        Set<String> open = new TreeSet<>();
        for (Method m : c.getDeclaredMethods()) {
            if (isPrivate(m.getModifiers()) || m.isSynthetic()) continue;
            open.add(signature(m));
            no("rule 1: " + m + " is not public or is static", !Modifier.isPublic(m.getModifiers()) || Modifier.isStatic(m.getModifiers()));
            no("the face: " + m + " answers another type", m.getReturnType() != (m.getName().equals("latest") ? long.class : int.class));
        }
        no("the face is " + open, !open.equals(new TreeSet<>(Arrays.asList(FACE.split(" ")))));
        Set<String> constants = new TreeSet<>();
        for (Field f : c.getDeclaredFields()) if (!isPrivate(f.getModifiers())) constants.add(f.getName());
        no("the constants are " + constants, !constants.toString().equals("[FULL, INDEX, NONE, NOT, NULL, OUTSIDE, SIZE, UNKNOWN]"));
        Due.is("constructors", c.getDeclaredConstructors().length, 1);
    }

    private static void classes() {
        Class<?>[] inside = AlbumHours.class.getDeclaredClasses();
        no("rule 11: " + (inside.length + 1) + " classes", inside.length + 1 > 12);
        for (Class<?> c : inside) {
            no("rule 2: " + c + " is not static", !Modifier.isStatic(c.getModifiers()));
            no("rule 1: " + c + " is public or protected", (c.getModifiers() & (Modifier.PUBLIC | Modifier.PROTECTED)) != 0);
            no("rule 2: " + c + " has classes inside", c.getDeclaredClasses().length > 0);
            fields(c);
        }
        fields(AlbumHours.class);
    }

    private static void fields(Class<?> c) {
        int own = 0;
        for (Field f : c.getDeclaredFields()) {
            boolean fixed = Modifier.isStatic(f.getModifiers());
            if (!fixed) own++;
            no("rule 5: " + f + " is static and not final", fixed && !Modifier.isFinal(f.getModifiers()));
            no("rule 5: " + f + " is static and no number", fixed && f.getType() != int.class && f.getType() != long.class);
        }
        no("rule 11: " + c + " has " + own + " fields", own > 20);
    }

    private static void methods() {
        Set<String> names = new HashSet<>();
        for (String s : FACE.split(" ")) names.add(s.substring(0, s.indexOf('(')));
        List<Class<?>> all = new ArrayList<>(Arrays.asList(AlbumHours.class.getDeclaredClasses()));
        all.add(AlbumHours.class);
        for (Class<?> c : all) {
            for (Method m : c.getDeclaredMethods()) {
                boolean face = c == AlbumHours.class && Modifier.isPublic(m.getModifiers());
                no("rule 1: " + m + " bears a name of the face", !face && names.contains(m.getName()));
                no("rule 11: " + m + " takes too much", m.getParameterCount() > 7);
            }
        }
    }

    private static void words(String source) {
        String code = source.replaceAll("(?s)/\\*.*?\\*/", "").replaceAll("//[^\n]*", "");
        String[] ruledOut = {"throw", "throws", "try", "catch", "finally", "synchronized", "assert", "package", "volatile", "transient",
            "native", "Object", "equals", "hashCode", "toString", "Random", "Thread", "float", "double"};
        for (String w : ruledOut) no("rules 3, 6, 13: " + w, Pattern.compile("\\b" + w + "\\b").matcher(code).find());
        no("rule 2: a lambda", code.contains("->"));
        no("rule 2: a method reference", code.contains("::"));
        no("rule 9: a loop without a bound", Pattern.compile("\\b(while|do)\\b|for \\([^;]*;\\s*;").matcher(code).find());
        no("rule 10: a text joined by +", Pattern.compile("\"\\s*\\+|\\+\\s*\"").matcher(code).find());
        no("signs beyond 126", source.chars().anyMatch(c -> c > 126));
        no("an import but that of Arrays", !source.startsWith("import java.util.Arrays;\n") || source.indexOf("import ", 1) >= 0);
    }

    private static void library(String source) {
        Set<String> allowed = new HashSet<>(Arrays.asList(LIBRARY.split(" ")));
        Matcher m = Pattern.compile("\\b(Arrays|System|Integer|Long|Math|Character|Boolean|List|Collections)\\.(\\w+)").matcher(source);
        while (m.find()) if (!source.startsWith("util." + m.group(), m.start() - 5)) no("rule 4: " + m.group(), !allowed.contains(m.group()));
    }

    private static void shortMethods(String source) {
        int began = 0;
        String[] lines = source.split("\n");
        for (int i = 0; i < lines.length; i++) {
            String bare = lines[i].strip();
            if (bare.startsWith("//") || bare.startsWith("/*") || bare.startsWith("*")) continue;
            boolean method = lines[i].matches(" {4,8}[\\w].*\\) \\{");
            if (method) began = i;
            if (lines[i].matches(" {4,8}\\}")) no("rule 11: the method at line " + (began + 1) + " is long", method(lines[began]) && i - began > 60);
        }
    }

    private static boolean method(String line) {
        return line.matches(" {4,8}[\\w].*\\) \\{");
    }

    private static String disassembled() throws Exception {
        File folder = new File(AlbumHours.class.getProtectionDomain().getCodeSource().getLocation().toURI());
        List<String> arguments = new ArrayList<>(List.of("-p", "-c"));
        for (String file : folder.list()) {
            if (file.matches("AlbumHours(\\$.*)?\\.class")) arguments.add(new File(folder, file).getPath());
        }
        StringWriter told = new StringWriter();
        PrintWriter out = new PrintWriter(told);
        ToolProvider.findFirst("javap").orElseThrow().run(out, out, arguments.toArray(new String[0]));
        return told.toString();
    }

    /** What each method calls, by the program as it is compiled: the library's methods, too. */
    private static Map<String, Set<String>> calls() throws Exception {
        Map<String, Set<String>> calls = new HashMap<>();
        Pattern head = Pattern.compile("\\S.*\\bclass (\\S+) .*|class (\\S+) .*");
        Pattern begin = Pattern.compile("  (?:\\S.* )?([\\w$.]+)\\(.*\\);");
        Pattern call = Pattern.compile(".*invoke\\w+ .*// (?:Interface)?Method ([^:]+):.*");
        String inClass = "";
        String method = "";
        for (String line : disassembled().split("\\R")) {
            Matcher h = head.matcher(line);
            Matcher b = begin.matcher(line);
            Matcher c = call.matcher(line);
            if (h.matches()) inClass = h.group(1) != null ? h.group(1) : h.group(2);
            if (b.matches()) {
                method = inClass + "." + (b.group(1).equals(inClass) ? "<init>" : b.group(1));
                calls.putIfAbsent(method, new TreeSet<>());
            }
            if (!c.matches()) continue;
            String called = c.group(1).replace("\"", "");
            calls.get(method).add(called.contains(".") ? called : inClass + "." + called);
        }
        return calls;
    }

    private static int depth(Map<String, Set<String>> calls, String method, Set<String> open) {
        if (!open.add(method)) return 1000;
        int most = 0;
        for (String called : calls.getOrDefault(method, Set.of())) most = Math.max(most, depth(calls, called, open));
        open.remove(method);
        return 1 + most;
    }

    private static void depth() throws Exception {
        if (ToolProvider.findFirst("javap").isEmpty()) {
            System.out.println("javap is not here: how deep the calls go is not looked at");
            return;
        }
        Map<String, Set<String>> calls = calls();
        for (String s : FACE.split(" ")) {
            String method = "AlbumHours." + s.substring(0, s.indexOf('('));
            no("the calls of " + method + " are not known", !calls.containsKey(method));
            int depth = depth(calls, method, new HashSet<>());
            no("rules 8, 11: " + method + " goes " + depth + " calls deep", depth > 8);
        }
    }
}
