import com.sun.management.ThreadMXBean;
import java.io.IOException;
import java.lang.management.ManagementFactory;
import java.lang.reflect.Constructor;
import java.lang.reflect.Field;
import java.lang.reflect.Method;
import java.lang.reflect.Modifier;
import java.nio.charset.StandardCharsets;
import java.nio.file.Files;
import java.nio.file.Path;
import java.util.HashSet;
import java.util.List;
import java.util.Set;
import java.util.TreeSet;
import java.util.regex.Matcher;
import java.util.regex.Pattern;

/** What ../shared/LANGUAGE.md says of the class, as far as a test can see it. It is run in the project's folder. */
public final class RulesTest {
    /** The document's face, as far as names and parameters go. */
    private static final String FACE = "about(1) alter(3) back(1) burst(4) come(3) commutes(2) cost(3) during(4)"
        + " element(1) event(3) fullest(2) joined(3) keep(2) lane(2) law(3) leave(2) letter(2) link(4) linked(2)"
        + " longest(2) many(3) open(5) panes(2) part(4) parted(4) peak(3) peakAt(3) rang(1) reach(3) reachBack(3)"
        + " rings(1) same(2) session(4) sessions(2) shortest(4) shut(1) soon(2) spare(2) state(2) table(2) take(2)"
        + " total(2) triple(1) turned(2) unlink(1) until(2) watch(4) were(4) windows(4) without(3) woven(3)";

    public static void main(String[] args) throws IOException {
        Due.promise(0);
        face();
        names();
        words(Files.readString(Path.of("src/main/java/SlideFold.java"), StandardCharsets.ISO_8859_1));
        room();
        Due.end("RulesTest");
    }

    private static void face() {
        Set<String> methods = new TreeSet<>();
        for (Method method : SlideFold.class.getDeclaredMethods()) {
            int how = method.getModifiers();
            Due.is(method + " is public or private", Modifier.isPublic(how) || Modifier.isPrivate(how), true);
            if (Modifier.isPublic(how)) {
                methods.add(method.getName() + "(" + method.getParameterCount() + ")");
            }
        }
        String all = String.join(" ", methods);
        Due.is("the methods are " + all, all.equals(FACE), true);
        Set<String> fields = new TreeSet<>();
        for (Field field : SlideFold.class.getDeclaredFields()) {
            int how = field.getModifiers();
            if (!Modifier.isPrivate(how)) {
                fields.add(Modifier.toString(how) + " " + field.getName());
            }
            Due.is(field + " is final", Modifier.isFinal(how), true);
        }
        Due.is("" + fields,
            fields.equals(Set.of("public static final NONE", "public static final NOTHING")), true);
        Constructor<?>[] constructors = SlideFold.class.getDeclaredConstructors();
        Due.is("constructors", constructors.length, 1);
        Due.is("without parameters", constructors[0].getParameterCount(), 0);
        Due.is("final", Modifier.isFinal(SlideFold.class.getModifiers()), true);
    }

    private static void names() {
        Set<String> open = new HashSet<>();
        for (Method method : SlideFold.class.getDeclaredMethods()) {
            if (Modifier.isPublic(method.getModifiers())) {
                open.add(method.getName());
            }
        }
        Class<?>[] inside = SlideFold.class.getDeclaredClasses();
        Due.is("some twelve classes", inside.length < 12, true);
        for (Class<?> one : inside) {
            int how = one.getModifiers();
            Due.is(one + " is static", Modifier.isStatic(how), true);
            Due.is(one + " is not public", Modifier.isPublic(how) || Modifier.isProtected(how), false);
            Due.is(one + " has some twenty fields", one.getDeclaredFields().length <= 20, true);
            for (Method method : one.getDeclaredMethods()) {
                Due.is(method + " has a name of its own", open.contains(method.getName()), false);
                Due.is(method + " has seven parameters", method.getParameterCount() <= 7, true);
            }
        }
        for (Method method : SlideFold.class.getDeclaredMethods()) {
            boolean isOpen = Modifier.isPublic(method.getModifiers());
            Due.is(method + " has a name of its own", isOpen || !open.contains(method.getName()), true);
            Due.is(method + " has seven parameters", method.getParameterCount() <= 7, true);
        }
    }

    private static void words(String text) {
        String code = Pattern.compile("/\\*.*?\\*/|//[^\\n]*", Pattern.DOTALL).matcher(text).replaceAll("");
        for (String word : List.of("throw", "throws", "try", "catch", "synchronized", "assert", "package", "float",
                "double", "equals", "hashCode", "toString", "volatile", "native", "Object", "Thread", "System.out")) {
            Due.is(word, Pattern.compile("\\b" + Pattern.quote(word) + "\\b").matcher(code).find(), false);
        }
        Due.is("lambdas", code.contains("->") || code.contains("::"), false);
        Matcher imports = Pattern.compile("import ([^;]*);").matcher(code);
        while (imports.find()) {
            Due.is(imports.group(1), imports.group(1).equals("java.util.Arrays"), true);
        }
        Due.is("signs 1 to 127", text.chars().allMatch(c -> c > 0 && c < 128), true);
        String[] lines = text.split("\n");
        int since = 0;
        for (int i = 0; i < lines.length; i++) {
            since = lines[i].isEmpty() ? i : since;
            Due.is("line " + (i + 1) + " is 120 long at most", lines[i].length() <= 120, true);
            Due.is("line " + (i + 1) + " ends some sixty lines at most", i - since <= 60, true);
        }
    }

    /** A run makes what the constructor makes, and nothing in its calls. */
    private static void room() {
        ThreadMXBean beans = (ThreadMXBean) ManagementFactory.getThreadMXBean();
        long thread = Thread.currentThread().getId();
        dearest(new SlideFold());
        long before = beans.getThreadAllocatedBytes(thread);
        SlideFold x = new SlideFold();
        long made = beans.getThreadAllocatedBytes(thread) - before;
        Due.is("made once: " + made + " bytes", made < 40000, true);
        before = beans.getThreadAllocatedBytes(thread);
        dearest(x);
        made = beans.getThreadAllocatedBytes(thread) - before;
        Due.is("made by calls: " + made + " bytes", made < 2000, true);
    }

    private static void dearest(SlideFold x) {
        x.open(0, 6, 0, 0, 100);
        x.open(1, 6, 1, 120, 100);
        x.link(0, 1, 0, 0);
        x.watch(0, 0, 0, 3);
        x.watch(1, 1, 0, 3);
        for (int i = 0; i < 3; i++) {
            x.burst(0, 40, i, 1);
            x.burst(1, 40, i, 1);
        }
        for (int i = 0; i < 10; i++) {
            x.spare(0, 0);
            x.windows(0, 0, 0, 5);
            x.shortest(0, 0, 100, 0);
            x.parted(0, 4, 0, 4);
            x.peak(0, 60, 0);
            x.reachBack(0, 0, 100);
            x.commutes(0, 50);
            x.woven(0, 1, 0);
            x.cost(0, 200, 0);
            x.were(0, 100, 1, 0);
            x.keep(0, 0);
            x.back(0);
            x.triple(0);
            x.element(0);
            x.session(0, 1, 0, 0);
            x.alter(0, 3, 4);
        }
        x.leave(0, 120);
    }
}
