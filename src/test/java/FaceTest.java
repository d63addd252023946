import java.io.IOException;
import java.lang.reflect.Constructor;
import java.lang.reflect.Field;
import java.lang.reflect.Method;
import java.lang.reflect.Modifier;
import java.nio.file.Files;
import java.nio.file.Path;
import java.util.ArrayList;
import java.util.Arrays;
import java.util.Collections;
import java.util.IdentityHashMap;
import java.util.List;
import java.util.Random;
import java.util.Set;
import java.util.TreeSet;
import java.util.regex.Matcher;
import java.util.regex.Pattern;

/** The face of the class is the document's, and its file keeps those rules of LANGUAGE.md that can be read off it. */
public final class FaceTest {
    private static final String FACE = "row(int,int) lay(int,int,int) at(int,int) tear(int) copy(int,int,int,int,int) "
        + "mean(int) text(int,int) put(int,int,int) fault(int) island(int) thing(int,int) mark(int,int) work(int,int) "
        + "load(int) limit(int) step(int,int) may(int,int) steps() undo(int) does(int) keep(int) on(int) can() "
        + "day(int) fewest(int) way(int,int) all() till(int) most(int) hand(int) creed(int,int) theft(int,int) "
        + "thefts(int,int) drops(int,int) beside(int,int) pair() saw(int,int) forget(int) drowned() odds(int) "
        + "image(int) gone(int) asked() upper() lower() count(int) finding() findings(int) digest()";
    private static final String FORBIDDEN = "\\b(throw|try|catch|synchronized|assert|double|float|random|Random|"
        + "currentTimeMillis|nanoTime|Thread|File|Object|instanceof|while|protected|var|equals|hashCode|toString)\\b"
        + "|->|::|\"";

    private static final Set<String> LIBRARY = Set.of("Arrays.fill", "Integer.bitCount", "Math.max", "Math.min",
        "System.arraycopy");

    private static int wrong = 0;

    private static void due(String what, Object got, Object want) {
        if (got.equals(want)) return;
        wrong++;
        System.out.println(what + " is " + got + ", due is " + want);
    }

    private static void methods() {
        Set<String> want = new TreeSet<>(Arrays.asList(FACE.split(" ")));
        Set<String> got = new TreeSet<>();
        Set<String> names = new TreeSet<>();
        for (String s : want) names.add(s.substring(0, s.indexOf('(')));
        for (Method m : ThreeThings.class.getDeclaredMethods()) {
            if (Modifier.isPrivate(m.getModifiers())) {
                due("a private " + m.getName() + " beside a public one", names.contains(m.getName()), false);
                continue;
            }
            StringBuilder sb = new StringBuilder(m.getName()).append('(');
            for (Class<?> c : m.getParameterTypes()) sb.append(sb.charAt(sb.length() - 1) == '(' ? "" : ",").append(c);
            got.add(sb.append(')').toString());
            due(m.getName() + " public, not static", m.getModifiers(), Modifier.PUBLIC);
            boolean isLong = Set.of("upper", "lower", "digest").contains(m.getName());
            due("what " + m.getName() + " answers", m.getReturnType(), isLong ? long.class : int.class);
        }
        due("the methods", got, want);
        for (Class<?> c : ThreeThings.class.getDeclaredClasses()) {
            due(c.getName() + " static", Modifier.isStatic(c.getModifiers()), true);
            due(c.getName() + " public", Modifier.isPublic(c.getModifiers()), false);
            for (Method m : c.getDeclaredMethods()) {
                due(m.getName() + " in " + c.getName(), names.contains(m.getName()), false);
            }
            due("fields of " + c.getName() + " up to 20", fieldsOf(c) <= 20, true);
        }
        due("classes up to 12", ThreeThings.class.getDeclaredClasses().length + 1 <= 12, true);
    }

    private static int fieldsOf(Class<?> c) {
        int n = 0;
        for (Field f : c.getDeclaredFields()) n += Modifier.isStatic(f.getModifiers()) ? 0 : 1;
        return n;
    }

    private static void fields() throws IllegalAccessException {
        StringBuilder got = new StringBuilder();
        for (Field f : ThreeThings.class.getDeclaredFields()) {
            if (Modifier.isPrivate(f.getModifiers())) continue;
            due(f.getName(), f.getModifiers(), Modifier.PUBLIC | Modifier.STATIC | Modifier.FINAL);
            got.append(f.getName()).append(' ').append(f.getInt(null)).append(' ');
        }
        due("the constants", got.toString(), "BAD -1 FULL -2 FINDING -3 STATE -4 SPENT -6 NONE -9 ");
        due("fields of the class up to 20", fieldsOf(ThreeThings.class) <= 20, true);
        due("the class", ThreeThings.class.getModifiers(), Modifier.PUBLIC | Modifier.FINAL);
        Constructor<?>[] made = ThreeThings.class.getDeclaredConstructors();
        due("constructors", made.length, 1);
        due("the constructor", made[0].getModifiers(), Modifier.PUBLIC);
        due("what it takes", made[0].getParameterCount(), 0);
    }

    private static void source() throws IOException {
        String s = Files.readString(Path.of("src/main/java/ThreeThings.java"));
        String code = s.replaceAll("(?s)/\\*.*?\\*/", "").replaceAll("//[^\n]*", "");
        Matcher m = Pattern.compile(FORBIDDEN).matcher(code);
        due("a sign that the language has not", m.find() ? m.group() : "none", "none");
        due("a package line", code.contains("package "), false);
        Matcher i = Pattern.compile("import ([^;]*);").matcher(code);
        while (i.find()) due("an import", i.group(1), "java.util.Arrays");
        for (String line : s.split("\n")) due("a line of up to 120 signs", line.length() <= 120, true);
        Matcher calls = Pattern.compile("\\b([A-Z][A-Za-z]*\\.[a-zA-Z]+)\\(").matcher(code);
        while (calls.find()) {
            boolean own = code.contains("class " + calls.group(1).split("\\.")[0] + " {");
            due(calls.group(1) + " is in the language", own || LIBRARY.contains(calls.group(1)), true);
        }
        methodLengths(code);
    }

    /** Methods begin and end at the same depth of blanks, as the file is laid out. */
    private static void methodLengths(String code) {
        Matcher m = Pattern.compile("(?m)^( {4}| {8})[a-zA-Z][^;=\n]*\\) \\{\n(?s:(.*?))^\\1\\}").matcher(code);
        int n = 0;
        while (m.find()) {
            n++;
            due("a method of up to 60 lines", m.group(2).split("\n").length <= 60, true);
        }
        due("more methods than the face has (" + n + ")", n > 53, true);
    }

    private static void classes() {
        List<Class<?>> all = new ArrayList<>(Arrays.asList(ThreeThings.class.getDeclaredClasses()));
        all.add(ThreeThings.class);
        for (Class<?> c : all) {
            for (Method m : c.getDeclaredMethods()) {
                due("what " + m.getName() + " takes, up to 7", m.getParameterCount() <= 7, true);
            }
            for (Field f : c.getDeclaredFields()) {
                if (!Modifier.isStatic(f.getModifiers())) continue;
                due("static " + f.getName() + " final", Modifier.isFinal(f.getModifiers()), true);
                due("static " + f.getName() + " of ints", Set.of("int", "int[]").contains(f.getType().getSimpleName()),
                    true);
            }
        }
    }

    /** All calls of one run share one room: what an object makes is to be a small part of it. */
    private static void room() throws IllegalAccessException {
        ThreeThings x = new ThreeThings();
        Set<Object> known = Collections.newSetFromMap(new IdentityHashMap<>());
        long elements = elementsOf(x, known);
        due("up to 200 objects (" + known.size() + ")", known.size() <= 200, true);
        due("up to 200,000 fields and elements (" + elements + ")", elements <= 200000, true);
    }

    private static long elementsOf(Object o, Set<Object> known) throws IllegalAccessException {
        if (o == null || !known.add(o)) return 0;
        if (o instanceof int[]) return ((int[]) o).length;
        long sum = 0;
        for (Field f : o.getClass().getDeclaredFields()) {
            if (Modifier.isStatic(f.getModifiers())) continue;
            f.setAccessible(true);
            sum++;
            if (!f.getType().isPrimitive()) sum += elementsOf(f.get(o), known);
        }
        return sum;
    }

    /** No call throws, whatever its arguments are, in whatever state. */
    private static void neverThrows() throws ReflectiveOperationException {
        Random random = new Random(7);
        int[] odd = {Integer.MIN_VALUE, Integer.MIN_VALUE + 1, -7, -1, 0, 1, 2, 3, 4, 5, 6, 7, 8, 34, 35, 60, 61, 100,
            101, Integer.MAX_VALUE - 1, Integer.MAX_VALUE};
        Method[] methods = ThreeThings.class.getDeclaredMethods();
        String[] islands = {"", "p4 t0 s0 bz l1 e2 w0001:1 w5234:9 w1104:3", "p1", "p3 tz tz tz sz bz w00012:3"};
        for (int run = 0; run < 200; run++) {
            ThreeThings x = new ThreeThings();
            String s = islands[run % islands.length];
            x.text(0, s.length());
            for (int i = 0; i < s.length(); i++) x.put(0, i, s.charAt(i));
            x.island(0);
            for (int call = 0; call < 400; call++) {
                Method m = methods[random.nextInt(methods.length)];
                if (!Modifier.isPublic(m.getModifiers())) continue;
                Object[] args = new Object[m.getParameterCount()];
                for (int i = 0; i < args.length; i++) {
                    args[i] = random.nextInt(3) == 0 ? odd[random.nextInt(odd.length)] : random.nextInt(7) - 1;
                }
                answered(m, m.invoke(x, args));
            }
        }
    }

    /** Below 0 are refusals and NONE alone, never SPENT; asked() and the longs answer any number. */
    private static void answered(Method m, Object answer) {
        if (m.getReturnType() != int.class || m.getName().equals("asked")) return;
        int v = (Integer) answer;
        due(m.getName() + " answered " + v + ", one of the document's", v >= -4 || v == -9, true);
    }

    /** All that is needed is made with the object: calls make nothing, however many there are. */
    private static void makesNothing() {
        com.sun.management.ThreadMXBean bean =
            (com.sun.management.ThreadMXBean) java.lang.management.ManagementFactory.getThreadMXBean();
        String s = "p4 tz t0 tz sz sz w0001:3 w113:5 w2240:4 w501:1";
        ThreeThings x = new ThreeThings();
        long before = bean.getCurrentThreadAllocatedBytes();
        x.text(0, s.length());
        for (int i = 0; i < s.length(); i++) x.put(0, i, s.charAt(i));
        int sum = x.fault(0) + x.island(0) + x.limit(5) + x.row(0, 5) + x.keep(0);
        for (int i = 0; i < 20; i++) {
            sum += x.step(1, i % 2 == 0 ? 4 : 0) + x.all() + x.fewest(0) + x.way(0, 1) + x.till(1) + x.most(2);
            sum += x.hand(1) + x.creed(3, 2) + x.theft(0, 2) + x.thefts(0, 3) + x.drops(0, 1) + x.pair() + x.drowned();
            sum += x.odds(0) + x.image(2) + x.gone(2) + x.can() + x.does(1) + x.undo(0) + x.steps() + (int) x.digest();
        }
        long made = bean.getCurrentThreadAllocatedBytes() - before;
        due("less than 10,000 bytes made by calls (" + made + ", " + sum + ")", made < 10000, true);
    }

    public static void main(String[] args) throws Exception {
        methods();
        fields();
        classes();
        source();
        room();
        neverThrows();
        makesNothing();
        System.out.println(wrong == 0 ? "the face is as due" : wrong + " are not as due");
        if (wrong != 0) System.exit(1);
    }
}
