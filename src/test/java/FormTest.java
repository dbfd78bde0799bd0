import java.io.IOException;
import java.lang.reflect.Array;
import java.lang.reflect.Constructor;
import java.lang.reflect.Field;
import java.lang.reflect.Member;
import java.lang.reflect.Method;
import java.lang.reflect.Modifier;
import java.nio.file.Files;
import java.nio.file.Path;
import java.util.Arrays;
import java.util.IdentityHashMap;
import java.util.Map;
import java.util.Set;
import java.util.TreeSet;
import java.util.regex.Matcher;
import java.util.regex.Pattern;
import java.util.stream.Collectors;

/** The public face, and those rules of LANGUAGE.md that can be seen by a simple look at the source. */
public final class FormTest {
    private static final String[] METHODS = {"int man(int,int)", "int stock()", "int hold(int,int,int)", "int lend(int,int)",
        "int asks(int,int,int)", "int look(int,int)", "long coin(int,int)", "int has(int,int,int)", "int made(int)",
        "int bargain(int,int,int,int)", "int mark(int,int)", "int clear(int)", "int of(int,int)", "int knew(int,int,int,int)",
        "int putOff(int,int,int)", "int option(int,int,int,int)", "int declare(int)", "int optionOf(int,int)",
        "int dividend(int,int,int)", "int feed(int,int)", "int wipe()", "int rule(int,int)", "int says(int,int)",
        "int why(int,int)", "int run(int)", "int pass(int,int)", "int delivery(int,int)", "long settled(int,int)",
        "int least(int,int)", "int judge(int,int)", "int corner(int,int,int)", "long squeeze(int,int)", "int rolling(int,int)",
        "int clearing(int)", "int count(int)", "int image()", "int back()", "int lay(int)", "int set(int,int)", "int tear()",
        "int row(int)", "int copy(int,int,int)", "int status(int)"};
    private static final String[] CONSTANTS = {"NONE=-1", "MISSING=-2", "BEYOND=-3", "BELOW=-4", "KIND=-5", "COPY=-6", "NO=-7",
        "FULL=-8"};
    private static final String[] FORBIDDEN = {"\\bthrow\\b", "\\bthrows\\b", "\\btry\\b", "\\bcatch\\b", "\\bsynchronized\\b",
        "\\bassert\\b", "->", "::", "\\bExact\\b", "Exact\\(", "\\bSystem\\.(?!arraycopy)", "\\bwhile\\b", "hashCode", "toString",
        "\\bvolatile\\b", "\\bstatic \\{", "\\[\\]\\[\\]", "\"\\s*\\+|\\+\\s*\"", "^package", "@"};
    private static int wrong = 0;

    private static void same(String what, Set<String> got, Set<String> want) {
        if (!got.equals(want)) {
            wrong++;
            System.out.println(what + ": " + got + "\n  due: " + want);
        }
    }

    private static Set<String> setOf(String... all) { return new TreeSet<>(Arrays.asList(all)); }

    private static boolean isSeen(Member m) { return !Modifier.isPrivate(m.getModifiers()); }

    private static void face() throws IllegalAccessException {
        Set<String> methods = new TreeSet<>();
        for (Method m : AccountDay.class.getDeclaredMethods()) {
            if (!isSeen(m)) continue;
            methods.add(m.getReturnType() + " " + m.getName()
                + Arrays.stream(m.getParameterTypes()).map(Class::getName).collect(Collectors.joining(",", "(", ")")));
        }
        same("methods", methods, setOf(METHODS));
        Set<String> constants = new TreeSet<>();
        for (Field f : AccountDay.class.getDeclaredFields()) if (isSeen(f)) constants.add(f.getName() + "=" + f.get(null));
        same("constants", constants, setOf(CONSTANTS));
        Constructor<?>[] made = AccountDay.class.getConstructors();
        if (made.length != 1 || made[0].getParameterCount() != 0 || !Modifier.isFinal(AccountDay.class.getModifiers())) {
            wrong++;
            System.out.println("the class is final, with one constructor");
        }
    }

    private static void insides() {
        Set<String> open = new TreeSet<>();
        for (Method m : AccountDay.class.getDeclaredMethods()) if (isSeen(m)) open.add(m.getName());
        Class<?>[] inside = AccountDay.class.getDeclaredClasses();
        if (inside.length > 12) complain("classes: " + inside.length);
        for (Class<?> c : inside) {
            if (!Modifier.isStatic(c.getModifiers())) complain(c + " isn't static");
            for (Method m : c.getDeclaredMethods()) {
                if (open.contains(m.getName())) complain(m + " bears the name of a public one");
                if (m.getParameterCount() > 7) complain(m + " takes too much");
            }
            long fields = Arrays.stream(c.getDeclaredFields()).filter(f -> !Modifier.isStatic(f.getModifiers())).count();
            if (fields > 20) complain(c + " has " + fields + " fields");
            for (Field f : c.getDeclaredFields()) {
                if (Modifier.isStatic(f.getModifiers()) && !Modifier.isFinal(f.getModifiers())) complain(f + " isn't final");
            }
        }
        for (Method m : AccountDay.class.getDeclaredMethods()) {
            if (!isSeen(m) && open.contains(m.getName())) complain(m + " bears the name of a public one");
        }
    }

    private static void complain(String text) {
        wrong++;
        System.out.println(text);
    }

    private static void source(String path) throws IOException {
        String text = Files.readString(Path.of(path));
        String bare = text.replaceAll("(?s)/\\*.*?\\*/", "").replaceAll("(?m)//.*$", "");
        for (String word : FORBIDDEN) {
            Matcher m = Pattern.compile(word, Pattern.MULTILINE).matcher(bare);
            if (m.find()) complain("the source has " + m.group());
        }
        Matcher imports = Pattern.compile("^import (.*);", Pattern.MULTILINE).matcher(bare);
        while (imports.find()) if (!imports.group(1).equals("java.util.Arrays")) complain("import " + imports.group(1));
        if (!text.chars().allMatch(c -> c < 128)) complain("a sign above 127");
        int begun = -1;
        String[] lines = text.split("\n");
        for (int i = 0; i < lines.length; i++) {
            if (lines[i].matches(" {4,8}[a-z].*\\) \\{")) begun = i;
            if (lines[i].matches(" {4}\\}| {8}\\}") && begun >= 0) {
                if (i - begun > 60) complain("long: " + lines[begun]);
                begun = -1;
            }
        }
    }

    /** All calls of a run live in one room: what an exchange with an image holds, and that calls add nothing to it. */
    private static void room() throws IllegalAccessException {
        AccountDay x = new AccountDay();
        x.image();
        long[] before = counted(x);
        if (before[0] > 200 || before[1] > 20000) complain("objects: " + before[0] + ", fields and elements: " + before[1]);
        AccountDay busy = Bench.settledOnce();
        busy.image();
        busy.run(28);
        busy.back();
        if (!Arrays.equals(counted(busy), before)) complain("calls make what stays: " + Arrays.toString(counted(busy)));
    }

    private static long[] counted(Object whole) throws IllegalAccessException {
        Map<Object, Boolean> met = new IdentityHashMap<>();
        long[] counts = new long[2];
        count(whole, met, counts);
        return counts;
    }

    private static void count(Object one, Map<Object, Boolean> met, long[] counts) throws IllegalAccessException {
        if (one == null || met.put(one, true) != null) return;
        counts[0]++;
        if (one.getClass().isArray()) {
            counts[1] += Array.getLength(one);
            return;
        }
        for (Field f : one.getClass().getDeclaredFields()) {
            if (Modifier.isStatic(f.getModifiers())) continue;
            counts[1]++;
            if (f.getType().isPrimitive()) continue;
            f.setAccessible(true);
            count(f.get(one), met, counts);
        }
    }

    public static void main(String[] args) throws IOException, IllegalAccessException {
        face();
        insides();
        room();
        source(args.length > 0 ? args[0] : "src/main/java/AccountDay.java");
        System.out.println("FormTest: " + wrong + " wrong");
        if (wrong != 0) System.exit(1);
    }
}
