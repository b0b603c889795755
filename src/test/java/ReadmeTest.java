import java.lang.reflect.Method;
import java.lang.reflect.Modifier;
import java.nio.file.Files;
import java.nio.file.Path;
import java.util.Arrays;
import java.util.TreeSet;
import java.util.regex.Matcher;
import java.util.regex.Pattern;

/** README.md shows each method of the class, with the answer that it really gives. */
public final class ReadmeTest {
    private static final Pattern CALL =
        Pattern.compile("bench\\.([a-z]+)\\((.*)\\);\\s*// (-?\\d+|true|false)\\b.*");

    private final PatchBench bench = new PatchBench();
    private final TreeSet<String> leftOut = new TreeSet<>();

    private ReadmeTest() {
        for (Method method : publicMethods()) {
            leftOut.add(method.getName());
        }
    }

    public static void main(String[] args) throws Exception {
        ReadmeTest test = new ReadmeTest();
        for (String line : Files.readAllLines(Path.of("README.md"))) {
            if (line.startsWith("bench.")) {
                test.makeCall(line);
            }
        }
        Due.yes("methods that README.md leaves out: " + test.leftOut, test.leftOut.isEmpty());
        Due.end();
    }

    private static Method[] publicMethods() {
        return Arrays.stream(PatchBench.class.getDeclaredMethods())
            .filter(method -> Modifier.isPublic(method.getModifiers()))
            .toArray(Method[]::new);
    }

    private void makeCall(String line) throws Exception {
        Matcher call = CALL.matcher(line);
        boolean hasAnswer = call.matches();
        Due.yes("a call with its answer behind it: " + line, hasAnswer);
        if (!hasAnswer) {
            return;
        }
        leftOut.remove(call.group(1));
        Due.same(line, asNumber(answer(call.group(1), call.group(2))), asNumber(call.group(3)));
    }

    private String answer(String name, String arguments) throws Exception {
        String[] texts = arguments.isEmpty() ? new String[0] : arguments.split(", ");
        for (Method method : publicMethods()) {
            Class<?>[] types = method.getParameterTypes();
            if (method.getName().equals(name) && types.length == texts.length) {
                Object[] values = new Object[texts.length];
                for (int i = 0; i < texts.length; i++) {
                    values[i] = types[i] == boolean.class ? (Object) Boolean.valueOf(texts[i]) : asInt(texts[i]);
                }
                return String.valueOf(method.invoke(bench, values));
            }
        }
        throw new IllegalArgumentException("no such method: " + name + "(" + arguments + ")");
    }

    private static Integer asInt(String text) {
        return text.equals("PatchBench.NONE") ? PatchBench.NONE : Integer.decode(text);
    }

    private static long asNumber(String text) {
        return text.equals("true") ? 1 : text.equals("false") ? 0 : Long.parseLong(text);
    }
}
