/**
 * Long runs of calls on one town each, on ChurnTalk and on PlainChurn: every answer of both must be
 * alike. Texts with and without faults, numbers in and out of what is told.
 */
public final class ModelTest {
    private static final int RUNS = 160;
    private static final Due DUE = new Due();

    public static void main(String[] args) {
        for (int run = 0; run < RUNS; run++) {
            Twin twin = new Twin(DUE, 20261119 + run);
            if (run % 8 != 0) {
                tell(twin, run % 8 == 1);
            }
            while (twin.hasCalls()) {
                ask(twin, run);
            }
        }
        DUE.end();
    }

    private static void tell(Twin twin, boolean maybeWrong) {
        String text = twin.town(6, 9);
        twin.wipe();
        for (char letter : (maybeWrong ? twin.spoiled(text) : text).toCharArray()) {
            twin.write(letter);
        }
        twin.fault();
        twin.lay();
    }

    private static void ask(Twin twin, int run) {
        int kind = twin.below(100);
        if (kind < 35) {
            twin.anyAct();
        } else if (kind < 60) {
            twin.anyLook();
        } else if (kind < 92) {
            twin.anyQuestion();
        } else if (kind < 99) {
            later(twin);
        } else if (run % 4 == 0) {
            twin.anyText();
        }
    }

    private static void later(Twin twin) {
        switch (twin.below(4)) {
            case 0 -> twin.held();
            case 1 -> twin.day();
            case 2 -> twin.keep();
            default -> twin.back();
        }
    }
}
