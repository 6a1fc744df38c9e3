import java.io.IOException;
import java.lang.reflect.Constructor;
import java.lang.reflect.Field;
import java.lang.reflect.Method;
import java.lang.reflect.Modifier;
import java.nio.file.Files;
import java.nio.file.Path;
import java.util.Set;
import java.util.TreeSet;

/** The public face as the document has it, and the rules of LANGUAGE.md that a text shows. */
public final class FaceTest {
    private static final Due DUE = new Due();
    private static final String[] METHODS = {
        "write 1", "wipe 0", "fault 0", "lay 0", "person 2", "tale 2", "churn 1", "sit 2", "stand 0",
        "pass 1", "hush 1", "undo 0", "comes 1", "quiet 0", "brings 3", "best 2", "twos 2", "leave 1",
        "hears 2", "cost 2", "said 4", "who 3", "held 6", "day 3", "keep 0", "back 0", "count 1"};
    private static final String[] NOT_THERE = {
        "import ", "->", "::", "try {", "catch (", "finally", "throw ", "synchronized", "assert ",
        "instanceof", "Exact(", "String.", "System.", "Object ", "equals(", "hashCode", "toString"};

    public static void main(String[] args) throws IOException {
        constants();
        methods();
        members();
        insideNames();
        words();
        extremes();
        DUE.end();
    }

    private static void constants() {
        DUE.is("BAD", ChurnTalk.BAD, -1);
        DUE.is("NO", ChurnTalk.NO, -2);
        DUE.is("FULL", ChurnTalk.FULL, -3);
        DUE.is("NONE", ChurnTalk.NONE, -4);
    }

    private static Set<String> publicMethods() {
        Set<String> names = new TreeSet<>();
        for (Method m : ChurnTalk.class.getDeclaredMethods()) {
            if (Modifier.isPublic(m.getModifiers())) {
                boolean isFace = m.getReturnType() == int.class && !Modifier.isStatic(m.getModifiers());
                DUE.is("an int by an object: " + m.getName(), isFace ? 1 : 0, 1);
                for (Class<?> type : m.getParameterTypes()) {
                    DUE.is("an int for " + m.getName(), type == int.class ? 1 : 0, 1);
                }
                names.add(m.getName() + " " + m.getParameterCount());
            }
        }
        return names;
    }

    private static void methods() {
        DUE.is("the public methods", publicMethods().equals(new TreeSet<>(Set.of(METHODS))) ? 1 : 0, 1);
    }

    private static void members() {
        Class<?> face = ChurnTalk.class;
        DUE.is("final", Modifier.isFinal(face.getModifiers()) ? 1 : 0, 1);
        Constructor<?>[] constructors = face.getDeclaredConstructors();
        DUE.is("constructors", constructors.length, 1);
        DUE.is("without arguments", constructors[0].getParameterCount(), 0);
        int fields = 0;
        for (Field f : face.getDeclaredFields()) {
            fields += Modifier.isPrivate(f.getModifiers()) ? 0 : 1;
            boolean kept = Modifier.isStatic(f.getModifiers()) && !Modifier.isFinal(f.getModifiers());
            DUE.is("static and not final: " + f.getName(), kept ? 1 : 0, 0);
        }
        DUE.is("fields that are not private", fields, 4);
        for (Method m : face.getDeclaredMethods()) {
            int hidden = Modifier.PUBLIC | Modifier.PRIVATE;
            DUE.is("public or private: " + m.getName(), (m.getModifiers() & hidden) != 0 ? 1 : 0, 1);
        }
        for (Class<?> inside : face.getDeclaredClasses()) {
            DUE.is("private: " + inside, Modifier.isPrivate(inside.getModifiers()) ? 1 : 0, 1);
            DUE.is("static: " + inside, Modifier.isStatic(inside.getModifiers()) ? 1 : 0, 1);
        }
    }

    private static void insideNames() {
        Set<String> names = new TreeSet<>();
        for (String method : METHODS) {
            names.add(method.substring(0, method.indexOf(' ')));
        }
        for (Method m : ChurnTalk.class.getDeclaredMethods()) {
            boolean twice = !Modifier.isPublic(m.getModifiers()) && names.contains(m.getName());
            DUE.is("a public one's name: " + m.getName(), twice ? 1 : 0, 0);
        }
        for (Class<?> inside : ChurnTalk.class.getDeclaredClasses()) {
            for (Method m : inside.getDeclaredMethods()) {
                DUE.is("a public one's name: " + m.getName(), names.contains(m.getName()) ? 1 : 0, 0);
                DUE.is("arguments of " + m.getName(), m.getParameterCount() <= 7 ? 1 : 0, 1);
            }
        }
    }

    private static void words() throws IOException {
        String program = Files.readString(Path.of("src/main/java/ChurnTalk.java"));
        String code = program.replaceAll("(?s)/\\*.*?\\*/", "").replaceAll("//[^\n]*", "");
        for (String word : NOT_THERE) {
            DUE.is("'" + word + "' in the program", code.contains(word) ? 1 : 0, 0);
        }
        // No call makes an object: 'new' stands in fields and in the constructor of a shelf alone.
        for (String line : code.split("\n")) {
            boolean inField = line.matches(" +private .* = new .*;");
            boolean inShelf = line.contains("states = new State[") || line.contains("states[i] = new State()");
            DUE.is("new in: " + line.strip(), line.contains("new ") && !inField && !inShelf ? 1 : 0, 0);
        }
    }

    // Whatever the numbers, a call answers; the answers due here are those of numbers not told.
    private static void extremes() {
        int[] wild = {Integer.MIN_VALUE, Integer.MAX_VALUE, -1000, 100000};
        ChurnTalk x = new ChurnTalk();
        for (int w : wild) {
            int[] answers = {x.write(w), x.person(w, w), x.tale(w, w), x.churn(w), x.sit(w, ~w), x.pass(w),
                x.hush(w), x.comes(w), x.brings(w, ~w, w), x.best(w, w), x.twos(w, w), x.leave(w),
                x.hears(w, w), x.cost(w, w), x.said(w, ~w, w, w), x.who(w, w, w),
                x.held(w, ~w, w, w, w, w), x.day(w, w, w), x.count(w)};
            for (int i = 0; i < answers.length; i++) {
                DUE.is("call " + i + " with " + w, answers[i], -1);
            }
        }
    }
}
