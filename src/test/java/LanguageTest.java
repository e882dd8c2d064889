import java.lang.management.ManagementFactory;
import java.lang.reflect.Field;
import java.lang.reflect.Method;
import java.lang.reflect.Modifier;
import java.nio.file.Files;
import java.nio.file.Path;
import java.util.ArrayList;
import java.util.List;
import java.util.Set;
import java.util.TreeSet;
import java.util.regex.Matcher;
import java.util.regex.Pattern;

/** What of LANGUAGE.md can be told by a look at the text and at the compiled class. */
public final class LanguageTest {
    private static final Due due = new Due("LanguageTest");
    private static final Set<String> FACE = Set.of("cell", "rules", "hole", "plug", "pour", "fill", "trench",
            "state", "burns", "lost", "fed", "inTime", "read", "let", "span", "parts", "house", "gas", "person",
            "hears", "offer", "pull", "gone", "weeks", "feed", "end", "act", "fault", "force", "by", "whose", "vote",
            "place", "best", "image", "back", "about");

    public static void main(String[] args) throws Exception {
        String source = Files.readString(Path.of("src/main/java/SeamFire.java"));
        words(source);
        lengths(source);
        face();
        classes();
        noObjects();
        due.end();
    }

    private static void words(String source) {
        String code = source.replaceAll("(?s)/\\*.*?\\*/", "").replaceAll("//.*", "");
        String[] none = {"\\bthrow\\b", "\\bthrows\\b", "\\btry\\b", "\\bcatch\\b", "\\bsynchronized\\b",
            "\\bassert\\b", "->", "::", "\\bpackage\\b", "\\bimport (?!java\\.util\\.(ArrayList|List|Arrays|Iterator);)",
            "Exact\\b", "\\bstatic\\s*\\{", "hashCode", "\\bnative\\b", "\\bvolatile\\b", "\\bprotected\\b",
            "\\bvar\\b"};
        for (String word : none) {
            Matcher found = Pattern.compile(word).matcher(code);
            due.no(word, found.find());
        }
        Matcher library = Pattern.compile("\\b(System|String|Arrays)\\.(\\w+)").matcher(code);
        Set<String> allowed = Set.of("System.arraycopy", "Arrays.copyOf", "Arrays.copyOfRange", "Arrays.fill");
        while (library.find()) {
            due.yes(library.group(), allowed.contains(library.group()));
        }
        for (char c : source.toCharArray()) {
            if (c > 126) {
                due.is("sign " + (int) c, 0, c);
            }
        }
    }

    /** A method begins at four or eight blanks and ends at a brace below its first letter. */
    private static void lengths(String source) {
        String[] lines = source.split("\n");
        int methods = 0;
        for (int i = 0; i < lines.length; i++) {
            Matcher begin = Pattern.compile("^( {4}| {8})[a-z].*\\).* \\{$").matcher(lines[i]);
            if (begin.matches()) {
                int end = i;
                while (!lines[end].equals(begin.group(1) + "}")) {
                    end++;
                }
                methods++;
                due.yes(lines[i].trim() + " is short", end - i <= 60);
            }
        }
        due.yes("methods were seen", methods > FACE.size());
    }

    private static void face() {
        due.yes("final", Modifier.isFinal(SeamFire.class.getModifiers()));
        Set<String> seen = new TreeSet<>();
        for (Method m : SeamFire.class.getDeclaredMethods()) {
            boolean isPublic = Modifier.isPublic(m.getModifiers());
            due.yes(m + " is public or private", isPublic || Modifier.isPrivate(m.getModifiers()));
            due.is(m + " is of the face", FACE.contains(m.getName()) ? 1 : 0, isPublic ? 1 : 0);
            due.yes(m + " takes at most seven", m.getParameterCount() <= 7);
            if (isPublic) {
                seen.add(m.getName());
            }
        }
        due.is("the whole face", FACE.size(), seen.size());
        due.is("one constructor", 1, SeamFire.class.getDeclaredConstructors().length);
        for (Field f : SeamFire.class.getDeclaredFields()) {
            due.is(f + " is NONE or private", f.getName().equals("NONE") ? 0 : 1,
                    Modifier.isPrivate(f.getModifiers()) ? 1 : 0);
        }
    }

    private static void classes() {
        List<Class<?>> all = new ArrayList<>(List.of(SeamFire.class.getDeclaredClasses()));
        due.yes("some twelve classes", all.size() + 1 <= 12);
        for (Class<?> c : all) {
            due.yes(c + " is static", Modifier.isStatic(c.getModifiers()));
            due.no(c + " is public", Modifier.isPublic(c.getModifiers()));
            for (Method m : c.getDeclaredMethods()) {
                due.no(m + " bears a name of the face", FACE.contains(m.getName()));
                due.yes(m + " takes at most seven", m.getParameterCount() <= 7);
            }
        }
        all.add(SeamFire.class);
        for (Class<?> c : all) {
            int fields = 0;
            for (Field f : c.getDeclaredFields()) {
                boolean isStatic = Modifier.isStatic(f.getModifiers());
                due.yes(f + " is final", !isStatic || Modifier.isFinal(f.getModifiers()));
                fields += isStatic ? 0 : 1;
            }
            due.yes(c + " has some twenty fields", fields <= 20);
        }
    }

    private static SeamFire full() {
        SeamFire x = new SeamFire(8, 8);
        for (int c = 0; c < 64; c++) {
            x.cell(c, c % 3 == 0 ? 3 : 1, c % 3 == 0 ? 0 : 40);
        }
        for (int s = 0; s < 8; s++) {
            x.state(1 + 3 * s, s);
            x.hole(3 * s);
            x.house(s, 5, 5);
            x.person(s, 1, 100 * s);
        }
        for (int p = 0; p < 6; p++) {
            x.place(6 * p, 10 * p);
        }
        return x;
    }

    private static void use(SeamFire x) {
        for (int i = 0; i < 18; i++) {
            x.end(0);
            // "worth gas / 2 ; yes gas>1 ; shut gas>9; whose 1 1=1;" in words of four bytes
            x.feed(0x776f7274, 0x68206761, 0x73202f20, 0x32203b20, 0x79657320);
            x.feed(0x6761733e, 0x31203b20, 0x73687574, 0x20676173, 0x3e39203b);
            x.act();
            x.force(0, i, 99);
            x.weeks(1);
            x.image();
            x.pour(0, 9);
            x.trench(9, 0, 3, 1);
            x.read(1, 0, true);
            x.burns(0, 99, 5, 1);
            x.fed(0, 99, 1);
            x.inTime(0, -1);
            x.parts(50);
            x.span(1, 50, 3);
            x.gas(0, 50, true);
            x.by(0, 50, 0);
            x.by(0, 50, 1);
            x.vote(50, 2);
            x.whose(50);
            x.best(99999, i + 20, 0);
            x.back();
        }
    }

    /** All calls of one run live in one room, so no call makes an object. */
    private static void noObjects() {
        com.sun.management.ThreadMXBean threads =
                (com.sun.management.ThreadMXBean) ManagementFactory.getThreadMXBean();
        use(full());
        SeamFire x = full();
        long own = Thread.currentThread().getId();
        long before = threads.getThreadAllocatedBytes(own);
        use(x);
        long made = threads.getThreadAllocatedBytes(own) - before;
        due.yes("calls make nothing, but made " + made + " bytes", made < 1000);
        before = threads.getThreadAllocatedBytes(own);
        new SeamFire(8, 8);
        made = threads.getThreadAllocatedBytes(own) - before;
        due.yes("an object is small, but is " + made + " bytes", made < 120000);
        System.out.println("an object takes " + made + " bytes");
    }
}
