import java.io.IOException;
import java.lang.reflect.Method;
import java.lang.reflect.Modifier;
import java.nio.file.Files;
import java.nio.file.Path;
import java.util.Map;
import java.util.TreeMap;
import java.util.regex.Matcher;
import java.util.regex.Pattern;

/** README.md tells no answer that is not due, and names each call of the face with as many arguments as it takes. */
public final class ReadmeTest {
    private static final Pattern EXAMPLE = Pattern.compile("(?m)^x\\.(\\w+)\\(([^)]*)\\); +// (-?\\d+)");
    private static final Pattern NAMED = Pattern.compile("`(\\w+)\\(([^)`]*)\\)`");
    private static final Pattern NUMBER = Pattern.compile("`([A-Z]+)` (?:\\| |\\()(-\\d)");

    private static int wrong = 0;

    private static void due(String what, Object got, Object want) {
        if (got.equals(want)) return;
        wrong++;
        System.out.println(what + " is " + got + ", due is " + want);
    }

    private static String[] arguments(String list) {
        return list.isBlank() ? new String[0] : list.split(",");
    }

    private static Map<String, Method> face() {
        Map<String, Method> face = new TreeMap<>();
        for (Method m : ThreeThings.class.getDeclaredMethods()) {
            if (Modifier.isPublic(m.getModifiers())) face.put(m.getName(), m);
        }
        return face;
    }

    private static void example(String readme) throws ReflectiveOperationException {
        Matcher text = Pattern.compile("String island = \"([^\"]*)\";").matcher(readme);
        due("a text of an island in the example", text.find(), true);
        String island = text.group(1);
        ThreeThings x = new ThreeThings();
        Matcher m = EXAMPLE.matcher(readme.replace("island.length()", String.valueOf(island.length())));
        int n = 0;
        while (m.find()) {
            String[] words = arguments(m.group(2));
            Object[] args = new Object[words.length];
            for (int i = 0; i < args.length; i++) args[i] = Integer.parseInt(words[i].trim());
            Object got = face().get(m.group(1)).invoke(x, args);
            due("line " + n + " of the example, " + m.group(1), String.valueOf(got), m.group(3));
            if (m.group(1).equals("text")) {
                for (int i = 0; i < island.length(); i++) x.put(0, i, island.charAt(i));
            }
            n++;
        }
        due("lines of the example with an answer, at least 15", n >= 15, true);
    }

    private static void calls(String readme) {
        Map<String, Method> face = face();
        Map<String, Integer> named = new TreeMap<>();
        Matcher m = NAMED.matcher(readme);
        while (m.find()) {
            Method call = face.get(m.group(1));
            due(m.group(1) + " is a call", call != null, true);
            if (call == null) continue;
            due("what " + m.group(1) + " takes", arguments(m.group(2)).length, call.getParameterCount());
            named.put(m.group(1), 1);
        }
        due("calls that are named", named.keySet().toString(), face.keySet().toString());
    }

    private static void numbers(String readme) throws ReflectiveOperationException {
        Matcher m = NUMBER.matcher(readme);
        int n = 0;
        while (m.find()) {
            due(m.group(1), m.group(2), String.valueOf(ThreeThings.class.getField(m.group(1)).getInt(null)));
            n++;
        }
        due("numbers below 0 that are named", n, 6);
    }

    public static void main(String[] args) throws IOException, ReflectiveOperationException {
        String readme = Files.readString(Path.of("README.md"));
        example(readme);
        calls(readme);
        numbers(readme);
        System.out.println(wrong == 0 ? "the README tells what is due" : wrong + " are not as due");
        if (wrong != 0) System.exit(1);
    }
}
