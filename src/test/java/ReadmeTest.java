import java.io.IOException;
import java.lang.reflect.InvocationTargetException;
import java.lang.reflect.Method;
import java.lang.reflect.Modifier;
import java.nio.charset.StandardCharsets;
import java.nio.file.Files;
import java.nio.file.Path;
import java.util.Set;
import java.util.TreeSet;
import java.util.regex.Matcher;
import java.util.regex.Pattern;

/** What README.md tells of the class: each call of its example answers as it says there, and no call is left out. */
public final class ReadmeTest {
    private static final Pattern CALL = Pattern.compile("x\\.(\\w+)\\(([^)]*)\\);\\s*// (-?\\d+)");

    public static void main(String[] args) throws IOException {
        Due.promise(0);
        String text = Files.readString(Path.of("README.md"), StandardCharsets.UTF_8);
        example(text);
        calls(text);
        Due.end("ReadmeTest");
    }

    private static void example(String text) {
        SlideFold x = new SlideFold();
        int asked = 0;
        for (String line : text.split("\n")) {
            Matcher call = CALL.matcher(line);
            if (call.lookingAt()) {
                asked++;
                Due.is(line, answer(x, call.group(1), call.group(2).split(", ")), Long.parseLong(call.group(3)));
            } else {
                Due.is("has an answer: " + line, line.startsWith("x."), false);
            }
        }
        Due.is("calls in the example", asked > 10, true);
    }

    private static int answer(SlideFold x, String name, String[] words) {
        Object[] arguments = new Object[words.length];
        for (int i = 0; i < words.length; i++) {
            arguments[i] = Integer.valueOf(words[i]);
        }
        for (Method method : SlideFold.class.getDeclaredMethods()) {
            if (method.getName().equals(name)) {
                try {
                    return (Integer) method.invoke(x, arguments);
                } catch (IllegalAccessException | InvocationTargetException e) {
                    throw new IllegalStateException(name, e);
                }
            }
        }
        throw new IllegalStateException(name);
    }

    private static void calls(String text) {
        Set<String> told = new TreeSet<>();
        Matcher name = Pattern.compile("`(\\w+)`").matcher(text.substring(text.indexOf("The calls by")));
        while (name.find()) {
            told.add(name.group(1));
        }
        for (Method method : SlideFold.class.getDeclaredMethods()) {
            if (Modifier.isPublic(method.getModifiers())) {
                Due.is(method.getName() + " is told in README.md", told.contains(method.getName()), true);
            }
        }
    }
}
