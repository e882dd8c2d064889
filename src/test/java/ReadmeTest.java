import java.io.IOException;
import java.lang.reflect.Method;
import java.nio.file.Files;
import java.nio.file.Path;
import java.util.ArrayList;
import java.util.Arrays;
import java.util.HashMap;
import java.util.List;
import java.util.Map;
import java.util.regex.Matcher;
import java.util.regex.Pattern;
import java.util.stream.Stream;

/** README.md: it has every call, and what it says that calls answer is so. */
public final class ReadmeTest {
    private static final Due due = new Due("ReadmeTest");
    private static final Pattern FACE = Pattern.compile("^    public ((?:int |boolean )?\\w+\\([^)]*\\)) \\{$");
    private static final Pattern ROW = Pattern.compile("^\\| `([^`]+)` \\| .+ \\| (.*) \\| (.*) \\|$");
    private static final Pattern MAKE = Pattern.compile("^SeamFire x = new SeamFire\\((.*?)\\);(?: *//.*)?$");
    private static final Pattern CALL = Pattern.compile("^x\\.(\\w+)\\((.*?)\\); *// (-?\\w+)(?:: .*)?$");
    private static final List<String> ALWAYS_TAKEN = List.of("SeamFire", "image", "back");

    private ReadmeTest() {
    }

    public static void main(String[] args) throws IOException, ReflectiveOperationException {
        List<String> page = Files.readAllLines(Path.of("README.md"));
        Map<String, String> told = everyCallIsTold(page);
        notTakenAsTold(told);
        for (String name : ALWAYS_TAKEN) {
            due.yes(name + " is told as always taken", "-".equals(told.get(name)));
        }
        exampleIsSo(page);
        testsAreTold(String.join("\n", page));
        due.end();
    }

    /** The rows of the page are the face, call by call; what a call answers if it is not taken is given back. */
    private static Map<String, String> everyCallIsTold(List<String> page) throws IOException {
        List<String> face = new ArrayList<>();
        for (String line : Files.readAllLines(Path.of("src/main/java/SeamFire.java"))) {
            Matcher found = FACE.matcher(line);
            if (found.matches()) {
                face.add(found.group(1));
            }
        }
        due.is("calls of the face, the constructor too", 38, face.size());
        Map<String, String> told = new HashMap<>();
        List<String> rows = new ArrayList<>();
        for (String line : page) {
            Matcher found = ROW.matcher(line);
            if (found.matches()) {
                rows.add(found.group(1));
                told.put(nameOf(found.group(1)), found.group(3));
                due.is(line, found.group(2).equals("never") ? 0 : 1, found.group(3).equals("-") ? 0 : 1);
            }
        }
        for (String call : face) {
            due.yes("README.md tells " + call, rows.contains(call));
        }
        due.yes("README.md tells each call once, in the face's order", rows.equals(face));
        return told;
    }

    private static String nameOf(String call) {
        String head = call.substring(0, call.indexOf('('));
        return head.substring(head.lastIndexOf(' ') + 1);
    }

    private static void notTakenAsTold(Map<String, String> told) throws ReflectiveOperationException {
        for (String name : told.keySet()) {
            if (!ALWAYS_TAKEN.contains(name)) {
                SeamFire x = new SeamFire(3, 2);
                Method method = method(name);
                fillUp(x, name);
                String[] words = new String[method.getParameterCount()];
                Arrays.fill(words, String.valueOf(Integer.MIN_VALUE));
                String want = told.get(name).replace("NONE", String.valueOf(SeamFire.NONE));
                same(name + " that is not taken", want, answer(x, method, words));
            }
        }
    }

    /** Any bytes may come on a tape, and any tape may be read, but not more than there is room for. */
    private static void fillUp(SeamFire x, String name) {
        for (int i = 0; i < 15 && name.equals("feed"); i++) {
            x.feed(0, 0, 0, 0, 0);
        }
        for (int i = 0; i < 10 && name.equals("act"); i++) {
            x.act();
        }
    }

    private static Method method(String name) throws ReflectiveOperationException {
        for (Method m : SeamFire.class.getMethods()) {
            if (m.getName().equals(name)) {
                return m;
            }
        }
        throw new NoSuchMethodException("README.md has a call that the class has not: " + name);
    }

    private static String answer(SeamFire x, Method method, String[] words) throws ReflectiveOperationException {
        Class<?>[] types = method.getParameterTypes();
        Object[] arguments = new Object[words.length];
        for (int i = 0; i < words.length; i++) {
            String word = words[i].trim();
            arguments[i] = types[i] == int.class ? (Object) Long.decode(word).intValue() : (Object) Boolean.valueOf(word);
        }
        return String.valueOf(method.invoke(x, arguments));
    }

    private static void same(String call, String want, String got) {
        due.yes(call + " answered " + got + ", README.md says " + want, want.equals(got));
    }

    /** Every line of the example is a call with its answer, but the one that makes the object. */
    private static void exampleIsSo(List<String> page) throws ReflectiveOperationException {
        SeamFire x = null;
        boolean inside = false;
        int calls = 0;
        for (String line : page) {
            Matcher make = MAKE.matcher(line);
            if (line.startsWith("```")) {
                inside = line.equals("```java");
            } else if (inside && make.matches()) {
                String[] sides = make.group(1).split(",");
                x = new SeamFire(Integer.parseInt(sides[0].trim()), Integer.parseInt(sides[1].trim()));
            } else if (inside && !line.isBlank()) {
                Matcher call = CALL.matcher(line);
                boolean reads = x != null && call.matches();
                due.yes("the example's line is a call with its answer: " + line, reads);
                if (reads) {
                    String[] words = call.group(2).isBlank() ? new String[0] : call.group(2).split(",");
                    same(line, call.group(3), answer(x, method(call.group(1)), words));
                    calls++;
                }
            }
        }
        due.yes("an example was seen, of " + calls + " calls", calls > 20);
    }

    private static void testsAreTold(String page) throws IOException {
        due.yes(".ci/run is told", page.contains("\n    .ci/run\n"));
        try (Stream<Path> files = Files.list(Path.of("src/test/java"))) {
            for (Path file : (Iterable<Path>) files.sorted()::iterator) {
                String name = file.getFileName().toString().replace(".java", "");
                if (name.endsWith("Test")) {
                    due.yes(name + " is told", page.contains("`" + name + "`"));
                }
            }
        }
    }
}
