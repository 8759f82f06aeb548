import java.io.IOException;
import java.lang.reflect.Method;
import java.lang.reflect.Modifier;
import java.nio.file.Files;
import java.nio.file.Path;
import java.util.regex.Matcher;
import java.util.regex.Pattern;

/** README.md against the class: the answers that its example tells, and every call's name with its numbers. */
public final class ReadmeTest {
    private static final Pattern EXAMPLE = Pattern.compile("```java\n(.*?)```", Pattern.DOTALL);
    private static final Pattern TEXT = Pattern.compile("\"([^\"]*)\"");
    private static final Pattern CALL = Pattern.compile("x\\.(\\w+)\\(([-0-9, ]*)\\); *// (-?\\d+|true|false)");
    private static final int CALLS_OF_THE_EXAMPLE = 12;

    public static void main(String[] args) throws IOException, ReflectiveOperationException {
        String page = Files.readString(Path.of("README.md"));
        Matcher example = EXAMPLE.matcher(page);
        Bench.due("an example in README.md", example.find(), true);
        follow(example.group(1));
        nameAll(page);
        Bench.end("ReadmeTest");
    }

    private static void follow(String example) throws ReflectiveOperationException {
        StringBuilder text = new StringBuilder();
        for (Matcher part = TEXT.matcher(example); part.find();) {
            text.append(part.group(1));
        }
        LinkTimes x = new LinkTimes();
        int told = Bench.tell(x, text.toString());
        Bench.due("the departures that README.md tells", example.contains("x.desk(text.length());   // " + told + " "), true);
        int calls = 0;
        for (Matcher call = CALL.matcher(example); call.find(); calls++) {
            Bench.due("README.md: " + call.group(1) + "(" + call.group(2) + ")",
                    answer(x, call.group(1), call.group(2)), due(call.group(3)));
        }
        Bench.due("calls that the example tells", calls, CALLS_OF_THE_EXAMPLE);
    }

    private static long due(String told) {
        return told.equals("true") ? 1 : told.equals("false") ? 0 : Long.parseLong(told);
    }

    private static long answer(LinkTimes x, String name, String told) throws ReflectiveOperationException {
        String[] parts = told.isEmpty() ? new String[0] : told.split(", ");
        Object[] numbers = new Object[parts.length];
        Class<?>[] types = new Class<?>[parts.length];
        for (int i = 0; i < parts.length; i++) {
            numbers[i] = Integer.valueOf(parts[i]);
            types[i] = int.class;
        }
        Object answer = LinkTimes.class.getMethod(name, types).invoke(x, numbers);
        return answer instanceof Boolean ? ((Boolean) answer ? 1 : 0) : (Integer) answer;
    }

    private static void nameAll(String page) {
        for (Method method : LinkTimes.class.getDeclaredMethods()) {
            if (Modifier.isPublic(method.getModifiers())) {
                int commas = Math.max(method.getParameterCount() - 1, 0);
                String call = "`" + method.getName() + "\\([^,)]*(, [^,)]*){" + commas + "}\\)";
                Bench.due("README.md names " + method.getName(), Pattern.compile(call).matcher(page).find(), true);
            }
        }
    }
}
