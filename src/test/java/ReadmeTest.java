import java.io.IOException;
import java.lang.reflect.Method;
import java.nio.charset.StandardCharsets;
import java.nio.file.Files;
import java.nio.file.Path;
import java.util.Set;
import java.util.TreeSet;
import java.util.regex.Matcher;
import java.util.regex.Pattern;

/** What README.md says of the class's use is so: each call of its example, with the answer told there. */
public final class ReadmeTest extends Checks {
    private static final Path README = Path.of("README.md");
    private static final Pattern CALL = Pattern.compile("loci\\.(\\w+)\\((.*?)\\);\\s*(?://\\s*(?:(-?\\d+):)?.*)?");

    public static void main(String[] args) throws IOException, ReflectiveOperationException {
        String text = Files.readString(README, StandardCharsets.UTF_8);
        int start = text.indexOf("```java");
        int end = text.indexOf("```", start + 7);
        EliminateLoci loci = new EliminateLoci();
        Set<String> called = new TreeSet<>();
        for (String line : text.substring(start, end).lines().toList()) {
            Matcher call = CALL.matcher(line.strip());
            if (call.matches()) {
                called.add(call.group(1));
                long got = answer(loci, call.group(1), call.group(2));
                String told = call.group(3) == null ? got + "" : call.group(3);
                test("README.md's example", () -> due(line.strip(), got, Long.parseLong(told)));
            }
        }
        test("README.md's example has each call", () -> dueAllCalls(called));
        end();
    }

    private static long answer(EliminateLoci loci, String name, String list) throws ReflectiveOperationException {
        String[] texts = list.isBlank() ? new String[0] : list.split(",");
        Class<?>[] types = new Class<?>[texts.length];
        Object[] numbers = new Object[texts.length];
        for (int i = 0; i < texts.length; i++) {
            types[i] = int.class;
            numbers[i] = Integer.parseInt(texts[i].strip());
        }
        return ((Number) EliminateLoci.class.getMethod(name, types).invoke(loci, numbers)).longValue();
    }

    private static void dueAllCalls(Set<String> called) {
        for (Method method : EliminateLoci.class.getDeclaredMethods()) {
            if (java.lang.reflect.Modifier.isPublic(method.getModifiers())) {
                due("calls of " + method.getName(), called.contains(method.getName()) ? 1 : 0, 1);
            }
        }
    }
}
