import java.io.IOException;
import java.lang.reflect.Constructor;
import java.lang.reflect.Field;
import java.lang.reflect.Method;
import java.lang.reflect.Modifier;
import java.nio.charset.StandardCharsets;
import java.nio.file.Files;
import java.nio.file.Path;
import java.util.ArrayList;
import java.util.Arrays;
import java.util.List;
import java.util.Set;
import java.util.TreeSet;

/** The public face, and what can be seen of LANGUAGE.md in the source (rules 1, 2, 4, 5, 6, 11). */
public final class FaceTest {
    private static final String SOURCE = "src/main/java/LinkTimes.java";

    /** Methods that answer an int, by how many ints they take. */
    private static final String[] TAKING = {
        "fault where trouble",
        "desk about ordered pairs hub slowest cancel run still size",
        "spot departure farthest steps quickest delay change hold",
        "arrives changes leaves rides stands trades latest reach meets others vital",
        "ride within round step spent other needs slack why",
        "feed trade extra",
    };

    private static final String[] FORBIDDEN = {
        "->", "::", "synchronized", "finally", "assert ", "catch", "static {", "System.", "Exact", "double ",
        "float ", "protected ", "getMessage", "Integer.valueOf", "instanceof", "String.", "@",
    };

    public static void main(String[] args) throws IOException {
        members();
        names();
        source();
        Bench.end("FaceTest");
    }

    private static void members() {
        Set<String> want = new TreeSet<>();
        for (int n = 0; n < TAKING.length; n++) {
            for (String name : TAKING[n].split(" ")) {
                want.add("int " + name + " of " + n);
            }
        }
        want.add("boolean undo of 0");
        Set<String> got = new TreeSet<>();
        for (Method m : LinkTimes.class.getDeclaredMethods()) {
            if (!Modifier.isPrivate(m.getModifiers()) && !m.isSynthetic()) {
                got.add(m.getReturnType() + " " + m.getName() + " of " + m.getParameterCount());
                Bench.due("public " + m.getName(), Modifier.isPublic(m.getModifiers()), true);
                Bench.due("not static " + m.getName(), Modifier.isStatic(m.getModifiers()), false);
            }
        }
        Bench.due("the methods " + got, got.equals(want), true);
        Bench.due("public and final", LinkTimes.class.getModifiers(), Modifier.PUBLIC | Modifier.FINAL);
        Constructor<?>[] made = LinkTimes.class.getDeclaredConstructors();
        Bench.due("one constructor", made.length, 1);
        Bench.due("a public constructor of nothing",
                Modifier.isPublic(made[0].getModifiers()) && made[0].getParameterCount() == 0, true);
        for (Field f : LinkTimes.class.getDeclaredFields()) {
            Bench.due("field " + f.getName(), Modifier.isPrivate(f.getModifiers()), !f.getName().equals("NONE"));
        }
        Bench.due("NONE", LinkTimes.NONE, -1);
    }

    private static void names() {
        List<String> face = new ArrayList<>(Arrays.asList(String.join(" ", TAKING).split(" ")));
        face.add("undo");
        List<Class<?>> all = new ArrayList<>(Arrays.asList(LinkTimes.class.getDeclaredClasses()));
        Bench.due("at most twelve classes", all.size() < 12, true);
        for (Class<?> inside : all) {
            Bench.due(inside.getName() + " is static", Modifier.isStatic(inside.getModifiers()), true);
        }
        all.add(LinkTimes.class);
        for (Class<?> c : all) {
            int fields = 0;
            for (Field f : c.getDeclaredFields()) {
                boolean constant = Modifier.isStatic(f.getModifiers());
                fields += constant ? 0 : 1;
                Bench.due(c + "." + f.getName() + " is final", !constant || Modifier.isFinal(f.getModifiers()), true);
            }
            Bench.due(c + " has some twenty fields", fields <= 20, true);
            for (Method m : c.getDeclaredMethods()) {
                boolean ofFace = c == LinkTimes.class && Modifier.isPublic(m.getModifiers());
                Bench.due("a name of the face: " + c + "." + m.getName(), !ofFace && face.contains(m.getName()), false);
                Bench.due("numbers of " + m.getName(), m.getParameterCount() <= 7, true);
            }
        }
    }

    private static void source() throws IOException {
        String text = Files.readString(Path.of(SOURCE), StandardCharsets.US_ASCII);
        for (String word : FORBIDDEN) {
            Bench.due("'" + word + "' in the source", text.contains(word), false);
        }
        int length = 0;
        boolean made = false;
        for (String line : text.split("\n")) {
            if (line.startsWith("import ")) {
                Bench.due(line, line.equals("import java.util.NoSuchElementException;"), true);
            }
            if (line.contains("throw ")) {
                Bench.due(line, line.trim().equals("throw new NoSuchElementException();"), true);
            }
            // Rows are made in fields and in the one constructor: no call makes an object.
            made = made || line.contains("public LinkTimes()");
            if (line.contains("new ") && !line.contains("throw ")) {
                boolean inField = line.contains(" = new ") && line.matches(" {8}(private )?(final )?\\w+(\\[\\])? .*");
                Bench.due("made in a call: " + line, inField || made, true);
            }
            made = made && !line.equals("    }");
            length = line.matches(" {4,8}\\}") ? 0 : length + 1;
            Bench.due("a short method at: " + line, length <= 70, true);
        }
    }
}
