import java.lang.reflect.InvocationTargetException;
import java.lang.reflect.Method;
import java.util.NoSuchElementException;

/** An object of the class and one of the Model, asked the same: each answer, and the trouble behind it, must be alike. */
final class Twins {
    private static final int NOTHING_SUCH = 777777;
    private static final int OTHER_EXCEPTION = 888888;

    final LinkTimes x = new LinkTimes();
    final Model model;
    private final String name;

    Twins(String name) {
        this(name, new Model());
    }

    Twins(String name, Model model) {
        this.name = name;
        this.model = model;
    }

    /** What the Model answers to a call that both are asked. */
    long ask(String call, int... numbers) throws ReflectiveOperationException {
        Object[] boxed = new Object[numbers.length];
        Class<?>[] types = new Class<?>[numbers.length];
        StringBuilder told = new StringBuilder(name).append(": ").append(call).append('(');
        for (int i = 0; i < numbers.length; i++) {
            boxed[i] = numbers[i];
            types[i] = int.class;
            told.append(i > 0 ? ", " : "").append(numbers[i]);
        }
        told.append(')');
        long want = answer(Model.class.getDeclaredMethod(call, types), model, boxed);
        Bench.due(told.toString(), answer(LinkTimes.class.getMethod(call, types), x, boxed), want);
        Bench.due("trouble() behind " + told, x.trouble(), model.trouble());
        return want;
    }

    private static long answer(Method method, Object object, Object[] numbers) throws ReflectiveOperationException {
        try {
            Object answer = method.invoke(object, numbers);
            return answer instanceof Boolean ? ((Boolean) answer ? 1 : 0) : (Integer) answer;
        } catch (InvocationTargetException thrown) {
            return thrown.getCause() instanceof NoSuchElementException ? NOTHING_SUCH : OTHER_EXCEPTION;
        }
    }

    /** Tells both a text, of which the first n bytes are to be the desk. */
    void desk(String text, int n) {
        String call = name + ": desk of '" + text + "'";
        Bench.put(x, text);
        for (int at = 0; at < text.length(); at += 20) {
            String twenty = text.substring(at, Math.min(at + 20, text.length()));
            model.feed(twenty + " ".repeat(20 - twenty.length()));
        }
        Bench.due("size(0) ahead of " + call, x.size(0), model.size(0));
        Bench.due(call, x.desk(n), model.desk(n));
        Bench.due("trouble() behind " + call, x.trouble(), model.trouble());
        Bench.due("fault() behind " + call, x.fault(), model.fault());
        Bench.due("where() behind " + call, x.where(), model.where());
    }
}
