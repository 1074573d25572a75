import java.lang.reflect.Constructor;
import java.lang.reflect.Field;
import java.lang.reflect.Method;
import java.lang.reflect.Modifier;
import java.nio.file.Files;
import java.nio.file.Path;
import java.util.ArrayList;
import java.util.HashMap;
import java.util.HashSet;
import java.util.List;
import java.util.Map;
import java.util.Set;
import java.util.TreeSet;
import java.util.regex.Matcher;
import java.util.regex.Pattern;

/**
 * Those rules of ../shared/LANGUAGE.md that can be seen without a compiler of one's own: the face, words
 * that are ruled out, the length of methods, how deep calls go, and that no call makes an object.
 */
public final class LanguageTest {
    private static final Path SOURCE = Path.of("src/main/java/DollGarlands.java");
    private static final String[] RULED_OUT = {
        "throw", "throws", "try", "catch", "finally", "synchronized", "assert", "import", "package", "->", "::",
        "volatile", "transient", "native", "System.out", "Object", "equals", "hashCode", "toString", "Random",
    };
    private static final Pattern HEAD = Pattern.compile("^ +(?:[a-z]+ )*[A-Za-z\\[\\]]+ (\\w+)\\(([^)]*)\\) \\{$");
    private static final Pattern MAKER = Pattern.compile("^ +(?:public )?([A-Z]\\w*)\\(([^)]*)\\) \\{$");
    private static final Pattern CALL = Pattern.compile("(?<!new )\\b([a-z]\\w*)\\(");

    /** The calls that each method makes, by name; methods of one name are taken together. */
    private final Map<String, Set<String>> calls = new HashMap<>();
    private final List<String> lines;

    private LanguageTest(String source) {
        lines = List.of(source.split("\n"));
    }

    public static void main(String[] args) throws Exception {
        String source = Files.readString(SOURCE);
        Check.holds("signs 1 to 127", source.chars().allMatch(sign -> sign >= 1 && sign <= 127));
        String code = withoutComments(source);
        for (String word : RULED_OUT) {
            String edge = Character.isLetter(word.charAt(0)) ? "\\b" : "";
            Check.holds("rules 3 to 6: no " + word, !Pattern.compile(edge + Pattern.quote(word) + edge).matcher(code).find());
        }
        library(code);
        face();
        fields();
        LanguageTest test = new LanguageTest(code);
        test.methods();
        test.depths();
        room();
        Check.finish();
    }

    private static String withoutComments(String source) {
        String code = Pattern.compile("/\\*.*?\\*/", Pattern.DOTALL).matcher(source).replaceAll("");
        return code.replaceAll("//[^\n]*", "");
    }

    /** Names with a point behind a class: its own classes', arraycopy, and functions of Math that never throw. */
    private static void library(String code) {
        Set<String> own = new HashSet<>();
        for (Class<?> each : DollGarlands.class.getDeclaredClasses()) {
            own.add(each.getSimpleName());
        }
        Matcher name = Pattern.compile("\\b([A-Z][a-z]\\w*)\\.(\\w+)").matcher(code);
        while (name.find()) {
            boolean arraycopy = name.group().equals("System.arraycopy");
            boolean math = name.group(1).equals("Math") && !name.group(2).endsWith("Exact");
            Check.holds("rule 4: " + name.group(), own.contains(name.group(1)) || arraycopy || math);
        }
        Check.holds("rule 10: texts are not joined by +", !Pattern.compile("\"\\s*\\+|\\+=?\\s*\"").matcher(code).find());
        Check.holds("rule 2: no class without a name", DollGarlands.class.getResource("DollGarlands$1.class") == null);
    }

    private static void fields() {
        List<Class<?>> all = new ArrayList<>(List.of(DollGarlands.class.getDeclaredClasses()));
        all.add(DollGarlands.class);
        Set<Class<?>> constants = Set.of(int.class, long.class, boolean.class, char.class, String.class, int[].class,
            long[].class, char[].class, byte[].class);
        for (Class<?> each : all) {
            int beside = 0;
            for (Field field : each.getDeclaredFields()) {
                if (Modifier.isStatic(field.getModifiers())) {
                    Check.holds("rule 5: " + field, Modifier.isFinal(field.getModifiers()) && constants.contains(field.getType()));
                } else {
                    beside++;
                }
            }
            Check.holds("rule 11: fields of " + each, beside <= 20);
        }
    }

    private static void face() {
        Set<String> want = new TreeSet<>(List.of("int setHands(int,int,int)", "int setRule(int)", "int setKinds(int)",
            "int cutDoll(int,boolean)", "int join(int,int)", "int cutApart(int,int)", "int turn(int)", "int fold(int)",
            "int takeAway(int)", "int type(char)", "int clearText()", "int readGarland()", "int undo()", "int keep()",
            "int restore()", "int kind(int,int)", "int garland(int,int)", "int doll(int,int,int)",
            "int reason(int,int)", "int between(int,int)", "int ways(int,int)", "int longest()", "int count(int)",
            "UNKNOWN=-1", "BAD_VALUE=-2", "FULL=-3", "NOT_POSSIBLE=-4", "NONE=-5", "DollGarlands()"));
        Set<String> got = new TreeSet<>();
        Set<String> publicNames = new HashSet<>();
        for (Method method : DollGarlands.class.getDeclaredMethods()) {
            if (!Modifier.isPrivate(method.getModifiers())) {
                got.add(method.toString().replace("public ", "").replace("DollGarlands.", ""));
                publicNames.add(method.getName());
            }
        }
        for (Constructor<?> maker : DollGarlands.class.getDeclaredConstructors()) {
            got.add(maker.toString().replace("public ", ""));
        }
        for (Field field : DollGarlands.class.getDeclaredFields()) {
            if (!Modifier.isPrivate(field.getModifiers())) {
                got.add(field.getName() + "=" + constant(field));
            }
        }
        for (Method method : DollGarlands.class.getDeclaredMethods()) {
            boolean isPrivate = Modifier.isPrivate(method.getModifiers());
            Check.holds("rule 1: the name of " + method, !isPrivate || !publicNames.contains(method.getName()));
        }
        Check.holds("rule 1: the face is " + got, got.equals(want));
        Check.holds("rule 1: public and final", Modifier.isFinal(DollGarlands.class.getModifiers()));
        Class<?>[] inside = DollGarlands.class.getDeclaredClasses();
        Check.holds("rule 11: classes", inside.length <= 12);
        for (Class<?> each : inside) {
            Check.holds("rule 2: " + each + " is static", Modifier.isStatic(each.getModifiers()));
            Check.holds("rule 1: " + each + " is not public", !Modifier.isPublic(each.getModifiers()));
            for (Method method : each.getDeclaredMethods()) {
                Check.holds("rule 1: the name of " + method, !publicNames.contains(method.getName()));
            }
        }
    }

    private static int constant(Field field) {
        try {
            return field.getInt(null);
        } catch (IllegalAccessException e) {
            throw new IllegalStateException(e);
        }
    }

    /** Looks at each method's length and parameters, and notes what it calls. */
    private void methods() {
        String name = "";
        int start = 0;
        for (int i = 0; i < lines.size(); i++) {
            String line = lines.get(i);
            Matcher head = HEAD.matcher(line);
            Matcher maker = MAKER.matcher(line);
            boolean isHead = head.matches() && !line.contains("else ") && !line.contains("return ");
            if (isHead || maker.matches()) {
                name = isHead ? head.group(1) : maker.group(1);
                String parameters = isHead ? head.group(2) : maker.group(2);
                start = i;
                calls.putIfAbsent(name, new HashSet<>());
                Check.holds("rule 11: parameters of " + name, parameters.split(",").length <= 7);
            } else if (!name.isEmpty()) {
                Matcher call = CALL.matcher(line);
                while (call.find()) {
                    calls.get(name).add(call.group(1));
                }
                Matcher made = Pattern.compile("new ([A-Z]\\w*)\\(").matcher(line);
                while (made.find()) {
                    calls.get(name).add(made.group(1));
                }
                Check.holds("rule 12: rows are made in constructors, not in " + name,
                    !line.contains("new ") || Character.isUpperCase(name.charAt(0)));
                Check.holds("rule 11: " + name + " is short", i - start <= 60);
            }
        }
        Check.holds("rule 11: methods are found", calls.size() > 80);
    }

    private void depths() {
        for (String name : new ArrayList<>(calls.keySet())) {
            Check.holds("rule 11: depth of " + name + " is " + depth(name, 0), depth(name, 0) <= 8);
        }
    }

    /** Counts a method that is never told here, as arraycopy, as none; a circle would go past the bound. */
    private int depth(String name, int above) {
        if (!calls.containsKey(name) || above > 20) {
            return above > 20 ? 99 : 0;
        }
        int deepest = 0;
        for (String called : calls.get(name)) {
            deepest = Math.max(deepest, depth(called, above + 1));
        }
        return deepest + 1;
    }

    /** All calls of a run live in one room: after an object is made, no call makes another one. */
    private static void room() {
        com.sun.management.ThreadMXBean beans =
            (com.sun.management.ThreadMXBean) java.lang.management.ManagementFactory.getThreadMXBean();
        DollGarlands x = new DollGarlands();
        callAll(x);
        long before = beans.getCurrentThreadAllocatedBytes();
        long idle = beans.getCurrentThreadAllocatedBytes() - before;
        before = beans.getCurrentThreadAllocatedBytes();
        for (int round = 0; round < 4; round++) {
            callAll(x);
        }
        long made = beans.getCurrentThreadAllocatedBytes() - before - idle;
        Check.due("rule 12: bytes made by calls", made, 0);
    }

    private static void callAll(DollGarlands x) {
        x.type('0');
        x.readGarland();
        x.cutDoll(2, true);
        x.join(0, 1);
        x.cutApart(0, 1);
        x.turn(0);
        x.fold(1);
        x.setHands(1, 5, 5);
        x.setHands(1, 4, 5);
        x.setRule(2);
        x.setRule(0);
        x.setKinds(9);
        x.setKinds(10);
        x.keep();
        x.restore();
        x.undo();
        for (int what = -1; what <= 10; what++) {
            x.kind(0, what);
            x.garland(0, what);
            x.doll(0, 0, what);
            x.ways(6, what);
            x.count(what);
        }
        x.reason(0, 1);
        x.between(1, 0);
        x.longest();
        x.clearText();
        x.takeAway(1);
        x.takeAway(0);
    }
}
