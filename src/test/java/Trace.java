/**
 * All that can be seen of an object, as a text: what stands, what can be undone, what is kept, and
 * what its TEXT lays. The object is used up by it; it gets some 400 calls at most.
 */
final class Trace {
    // More than the eight acts and the two that are kept; it ends, should they not.
    private static final int MOST_STEPS = 12;

    private final ChurnTalk x;
    private final StringBuilder seen = new StringBuilder();
    private int steps;

    private Trace(ChurnTalk x) {
        this.x = x;
    }

    static String of(ChurnTalk x) {
        Trace trace = new Trace(x);
        trace.town();
        trace.now("now");
        trace.past();
        trace.kept();
        trace.text();
        return trace.seen.toString();
    }

    /** What stands now, but for the TEXT, the past and what is KEPT; the object stays as it is. */
    static String ofNow(ChurnTalk x) {
        Trace trace = new Trace(x);
        trace.town();
        for (int what = 3; what <= 6; what++) {
            trace.see(x.count(what));
        }
        trace.all();
        return trace.seen.toString();
    }

    private void see(int answer) {
        seen.append(answer).append(' ');
    }

    private void town() {
        seen.append("town ");
        int persons = x.count(0);
        int tales = x.count(1);
        for (int p = 0; p < persons; p++) {
            see(x.person(p, 0));
            see(x.person(p, 1));
        }
        for (int t = 0; t < tales; t++) {
            see(x.tale(t, 0));
            see(x.tale(t, 1));
            see(x.tale(t, 2));
        }
    }

    private void now(String when) {
        seen.append(when).append(' ');
        for (int what = 0; what <= 9; what++) {
            see(x.count(what));
        }
        all();
    }

    private void all() {
        for (int what = 0; what <= 5; what++) {
            see(x.churn(what));
        }
        int persons = x.count(0);
        int tales = x.count(1);
        for (int p = 0; p < persons; p++) {
            see(x.person(p, 2));
        }
        for (int t = 0; t < tales; t++) {
            see(x.tale(t, 3));
        }
    }

    private void past() {
        for (int more = x.undo(); more >= 0 && steps < MOST_STEPS; more = x.undo()) {
            see(more);
            now("undone");
            steps++;
        }
    }

    private void kept() {
        for (int left = x.back(); left >= 0 && steps < MOST_STEPS; left = x.back()) {
            see(left);
            now("back");
            steps++;
        }
    }

    private void text() {
        seen.append("text ");
        see(x.fault());
        see(x.lay());
        town();
        now("laid");
    }
}
