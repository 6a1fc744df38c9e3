import java.util.Set;
import java.util.TreeSet;
import java.util.function.Consumer;

/**
 * Tests of boundary cases: each by itself, on new objects, under a name that begins with the promise
 * that it holds the class to. What is due stands in the document, or is worked out from it by hand.
 */
final class Bounds {
    static final int BAD = -1, NO = -2, FULL = -3, NONE = -4;
    static final int SMALLEST = Integer.MIN_VALUE, LARGEST = Integer.MAX_VALUE;

    /** How a new object comes to where the test begins. */
    interface Way {
        ChurnTalk make();
    }

    interface Call {
        int on(ChurnTalk x);
    }

    /** A call with one of its numbers left open. */
    interface OpenCall {
        int on(ChurnTalk x, int number);
    }

    private final Set<String> names = new TreeSet<>();
    private final Set<Integer> promises = new TreeSet<>();
    private int failed;

    /** What the tests themselves are built on. */
    static void must(String what, boolean holds) {
        if (!holds) {
            throw new IllegalStateException(what);
        }
    }

    /** A test in steps of its own. */
    void run(int promise, String sentence, Consumer<Due> steps) {
        String name = "promise " + promise + ": " + sentence;
        Due due = new Due();
        steps.accept(due);
        if (!names.add(name)) {
            due.same("the name of a test", "once more", "new");
        }
        promises.add(promise);
        if (!due.isMet()) {
            failed++;
            System.out.println("FAILED: " + name);
        }
    }

    /** The call's answer is this one. */
    void is(int promise, String sentence, Way way, Call call, int answer) {
        run(promise, sentence, due -> due.is("the call", call.on(way.make()), answer));
    }

    /** The call's answer is this one, and all stands as on an object that was never asked. */
    void asks(int promise, String sentence, Way way, Call call, int answer) {
        run(promise, sentence, due -> {
            ChurnTalk x = way.make();
            due.is("the call", call.on(x), answer);
            due.same("behind it, all", Trace.of(x), Trace.of(way.make()));
        });
    }

    /** The call is refused by BAD, NO or FULL, and nothing changes by it. */
    void refuses(int promise, String sentence, Way way, Call call, int answer) {
        must("a refusal: " + answer, answer == BAD || answer == NO || answer == FULL);
        asks(promise, sentence, way, call, answer);
    }

    /** Numbers beyond both ends are BAD: the next ones, and the farthest. */
    void beyond(int promise, String call, Way way, OpenCall open, int first, int last) {
        refuses(promise, call + ": " + (first - 1) + " is below the first", way, x -> open.on(x, first - 1), BAD);
        refuses(promise, call + ": " + (last + 1) + " is above the last", way, x -> open.on(x, last + 1), BAD);
        refuses(promise, call + ": the smallest int", way, x -> open.on(x, SMALLEST), BAD);
        refuses(promise, call + ": the largest int", way, x -> open.on(x, LARGEST), BAD);
    }

    /** Both ends of a question's number, with what is due there, and beyond them. */
    void ends(int promise, String call, Way way, OpenCall open, int first, int atFirst, int last, int atLast) {
        asks(promise, call + ": " + first + " is the first", way, x -> open.on(x, first), atFirst);
        asks(promise, call + ": " + last + " is the last", way, x -> open.on(x, last), atLast);
        beyond(promise, call, way, open, first, last);
    }

    /** Ends the program: with 1 if a test failed, or if one of these promises has none. */
    void end(int... expected) {
        for (int promise : expected) {
            if (!promises.contains(promise)) {
                failed++;
                System.out.println("FAILED: there is no test of promise " + promise);
            }
        }
        System.out.println(failed + " of " + names.size() + " tests failed");
        System.exit(failed == 0 ? 0 : 1);
    }
}
