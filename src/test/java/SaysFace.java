import java.io.IOException;
import java.lang.reflect.Method;
import java.lang.reflect.Modifier;
import java.nio.file.Files;
import java.nio.file.Path;
import java.util.Arrays;

/** What the document says of the public face, of FAULT and of what is LAID. */
final class SaysFace {
    private static final int NO = -2, NONE = -4;
    private static final Path PROGRAM = Path.of("src/main/java/ChurnTalk.java");

    /** The calls of promises 2 to 28, in their order. */
    private static final String[] CALLS = {
        "write(int letter)", "wipe()", "fault()", "lay()", "person(int p, int what)", "tale(int t, int what)",
        "churn(int what)", "sit(int a, int b)", "stand()", "pass(int n)", "hush(int t)", "undo()",
        "comes(int h)", "quiet()", "brings(int a, int b, int n)", "best(int n, int what)",
        "twos(int n, int p)", "leave(int n)", "hears(int t, int p)", "cost(int n, int what)",
        "said(int a, int b, int y, int what)", "who(int n, int y, int what)",
        "held(int a, int b, int n, int h, int x, int part)", "day(int z, int n, int what)", "keep()",
        "back()", "count(int what)"};

    private SaysFace() {
    }

    static void read(Document d) throws IOException {
        String program = Files.readString(PROGRAM);
        d.reads("## The public face");
        d.says(1, "public final class ChurnTalk {", due -> {
            int modifiers = ChurnTalk.class.getModifiers();
            due.is("public", Modifier.isPublic(modifiers) ? 1 : 0, 1);
            due.is("final", Modifier.isFinal(modifiers) ? 1 : 0, 1);
            due.same("without a package", ChurnTalk.class.getName(), "ChurnTalk");
        });
        d.says(1, "public static final int BAD = -1, NO = -2, FULL = -3, NONE = -4;", due -> {
            due.is("BAD", ChurnTalk.BAD, -1);
            due.is("NO", ChurnTalk.NO, -2);
            due.is("FULL", ChurnTalk.FULL, -3);
            due.is("NONE", ChurnTalk.NONE, -4);
            due.is("public fields", ChurnTalk.class.getFields().length, 4);
        });
        d.says(1, "public ChurnTalk();", due -> {
            due.is("public constructors", ChurnTalk.class.getConstructors().length, 1);
            due.is("its numbers", ChurnTalk.class.getConstructors()[0].getParameterCount(), 0);
        });
        for (int k = 0; k < CALLS.length; k++) {
            String call = CALLS[k];
            d.says(2 + k, "public int " + call + ";", due -> isThere(due, call, program));
        }
        d.reads("}");
        fault(d);
        laid(d);
    }

    private static void isThere(Due due, String call, String program) {
        String name = call.substring(0, call.indexOf('('));
        Method[] found = Arrays.stream(ChurnTalk.class.getMethods())
                .filter(m -> m.getName().equals(name)).toArray(Method[]::new);
        due.is("calls of this name", found.length, 1);
        for (Method m : found) {
            due.same("what it answers", m.getReturnType().getName(), "int");
            due.is("of the class", Modifier.isStatic(m.getModifiers()) ? 1 : 0, 0);
            due.is("its numbers", m.getParameterCount(), call.contains("()") ? 0 : call.split(",").length);
            due.is("all ints", Arrays.stream(m.getParameterTypes()).allMatch(int.class::equals) ? 1 : 0, 1);
            due.is("what it throws", m.getExceptionTypes().length, 0);
        }
        due.is("its words in the program", program.contains("public int " + call + " {") ? 1 : 0, 1);
    }

    private static void fault(Document d) {
        d.reads("## Terms");
        d.says(4, "FAULT: the place (from 0 on) of the first letter of the first ITEM that is not so.", due -> {
            String[] texts = {"x", "p4;", "p0;p9;p9;", "p0;p0;f0,0;", "p0;p3;p1;f0,2;t0,4,10,1;", "p0;p0;f0,1", ""};
            int[] places = {0, 0, 3, 6, 14, 6, NONE};
            for (int k = 0; k < texts.length; k++) {
                due.is("fault() of " + texts[k], Due.written(texts[k]).fault(), places[k]);
            }
        });
    }

    private static void laid(Document d) {
        d.says(5, "LAID is a TEXT without FAULT, of a PERSON at least (NO else;", due -> {
            due.is("no letters", Due.written("").lay(), NO);
            due.is("a FAULT", Due.written("p0;p4;").lay(), NO);
            due.is("no end", Due.written("p0;p0").lay(), NO);
            due.is("a PERSON", Due.written("p0;").lay(), 1);
        });
        d.says(1, "at first " + Towns.FIRST + ").", due -> {
            due.same("what stands", Trace.ofNow(new ChurnTalk()), Trace.ofNow(Due.laid(Towns.FIRST)));
            ChurnTalk x = new ChurnTalk();
            due.is("PERSONS", x.count(0), 6);
            due.is("TALES", x.count(1), 7);
            due.is("pairs of FRIENDS", x.count(2), 7);
            due.is("the last TALE, of whom", x.tale(6, 0), 0);
            due.is("the last TALE, ILL", x.tale(6, 1), 8);
            due.is("the last TALE, MINUTES", x.tale(6, 2), 3);
            due.is("the last TALE, who KNOWS it", x.tale(6, 4), 0b001000);
        });
    }

    /** What stands in the program behind "// ---- name" and ahead of the next such line. */
    private static String group(String program, String name) {
        int start = program.indexOf("// ---- " + name + "\n");
        int end = start < 0 ? -1 : program.indexOf("// ---- ", start + 1);
        return end < 0 ? "" : program.substring(start, end);
    }

    /** The calls of a group stand in it, in their order, and no other ones. */
    static void groupIs(Due due, String name, String... calls) {
        try {
            String group = group(Files.readString(PROGRAM), name);
            int place = 0;
            for (String call : calls) {
                place = group.indexOf("    public int " + call + "(", place);
                due.is(call + " in " + name, place >= 0 ? 1 : 0, 1);
                place = Math.max(0, place);
            }
            due.is("calls in " + name, group.split("\n    public ", -1).length - 1, calls.length);
        } catch (IOException e) {
            due.same("the program", e.toString(), "can be read");
        }
    }
}
