/**
 * Promises 1 to 28 in long runs: one object for all the 512 calls that the document names, several
 * TEXTS laid one behind the other, with acts, UNDONE, KEPT and questions between them. Once each
 * answer is worked out by hand; in the other runs it is compared with PlainChurn.
 */
public final class LongRunTest {
    private static final int NO = -2, FULL = -3, NONE = -4;
    private static final int RUNS = 120;
    private static final int FEWEST_TOWNS = 3;
    private static final Due DUE = new Due();

    public static void main(String[] args) {
        new LongRunTest().byHand();
        for (int run = 0; run < RUNS; run++) {
            new Teller(new Twin(DUE, 8191L * run)).run();
        }
        DUE.end();
    }

    /** Tells town behind town, a letter now and an act or a question then. */
    private static final class Teller {
        private final Twin twin;
        private String text = "";
        private int written;
        private int towns;

        Teller(Twin twin) {
            this.twin = twin;
        }

        void run() {
            begin();
            while (twin.hasCalls()) {
                if (twin.below(100) < 45) {
                    tell();
                } else {
                    live();
                }
            }
            DUE.is("calls", twin.calls(), Twin.CALLS);
            DUE.is("several TEXTS", towns >= FEWEST_TOWNS ? 1 : 0, 1);
        }

        private void begin() {
            written = 0;
            switch (twin.below(6)) {
                case 0 -> text = "p" + twin.below(4) + ";";
                case 1 -> text = "f0,1;";
                case 2 -> text = "t1,7,2,0;";
                default -> {
                    twin.wipe();
                    String town = twin.town(5, 4);
                    text = twin.below(6) == 0 ? twin.spoiled(town) : town;
                }
            }
        }

        private void tell() {
            if (written < text.length()) {
                twin.write(text.charAt(written));
                written++;
                return;
            }
            twin.fault();
            if (twin.hasCalls()) {
                twin.lay();
                towns++;
            }
            if (twin.hasCalls()) {
                begin();
            }
        }

        private void live() {
            int kind = twin.below(100);
            if (kind < 45) {
                twin.anyAct();
            } else if (kind < 60) {
                twin.anyLook();
            } else if (kind < 80) {
                twin.anyQuestion();
            } else if (kind < 85) {
                twin.undo();
            } else if (kind < 90) {
                twin.keep();
            } else if (kind < 94) {
                twin.back();
            } else if (kind < 97) {
                twin.day();
            } else {
                twin.held();
            }
        }
    }

    // ---- by hand

    private final ChurnTalk x = new ChurnTalk();
    private int calls;

    private void byHand() {
        firstTown();
        twoYoung();
        oneTaleMore();
        nine();
        wayHome();
        toTheEnd();
        DUE.is("by hand: calls", calls, Twin.CALLS);
    }

    private void is(String call, int got, int want) {
        calls++;
        DUE.is("by hand: " + call + " as call " + calls, got, want);
    }

    /** The letters, written behind so many. */
    private void write(String text, int size) {
        for (int k = 0; k < text.length(); k++) {
            is("write " + text.charAt(k), x.write(text.charAt(k)), size + k + 1);
        }
    }

    /** 0 tells TALE 0 (6, 6), 1 TALE 1 (9, 9, 9), 0 TALE 5 (7), 1 TALE 3 (12, 12, 12, 12). */
    private void firstTown() {
        is("sit(0, 1)", x.sit(0, 1), 0b0100011);
        int[] butter = {6, 12, 21, 30, 39, 46, 58, 70, 82};
        for (int wanted : butter) {
            is("pass(1)", x.pass(1), wanted);
        }
        is("churn(2)", x.churn(2), 1);
        is("churn(3)", x.churn(3), 3);
        is("churn(4)", x.churn(4), 1);
        is("churn(5)", x.churn(5), 0b0100011);
        is("quiet()", x.quiet(), 1);
        is("comes(94)", x.comes(94), 1);
        is("comes(95)", x.comes(95), NONE);
        is("hush(3)", x.hush(3), NO);
        is("hush(2)", x.hush(2), 6);
        is("undo()", x.undo(), 7);
        is("tale(2, 3)", x.tale(2, 3), 0);
        is("keep()", x.keep(), 1);
        is("pass(60)", x.pass(60), 94);
        is("stand()", x.stand(), 4);
        is("keep()", x.keep(), 2);
        is("keep()", x.keep(), FULL);
        is("back()", x.back(), 1);
        is("churn(0)", x.churn(0), NONE);
        is("back()", x.back(), 0);
        is("churn(4)", x.churn(4), 1);
        is("undo()", x.undo(), NO);
        is("keep()", x.keep(), 1);
    }

    /** 10 BUTTER for each MINUTE; of thirteen acts the last eight are the MINUTES from 5 to 12. */
    private void twoYoung() {
        is("wipe()", x.wipe(), 0);
        write("p3;p3;f0,1;", 0);
        is("fault()", x.fault(), NONE);
        is("count(4)", x.count(4), 82);
        is("lay()", x.lay(), 2);
        is("back()", x.back(), NO);
        is("count(4)", x.count(4), 0);
        is("sit(0, 1)", x.sit(0, 1), 0);
        int minutes = 0;
        for (int n = 1; n <= 12; n++) {
            minutes += n;
            is("pass(" + n + ")", x.pass(n), 10 * minutes);
        }
        is("keep()", x.keep(), 1);
        for (int n = 12; n >= 5; n--) {
            minutes -= n;
            is("undo()", x.undo(), n - 5);
            is("count(4)", x.count(4), 10 * minutes);
        }
        is("undo()", x.undo(), NO);
        is("count(3)", x.count(3), 10);
        is("back()", x.back(), 0);
        is("count(3)", x.count(3), 78);
        is("comes(999)", x.comes(999), 22);
        is("quiet()", x.quiet(), 0);
        is("stand()", x.stand(), 0);
        is("undo()", x.undo(), 0);
        is("churn(1)", x.churn(1), 1);
    }

    /** The TEXT stays, and more comes behind it: 0 KNOWS a TALE of 2, ILL by 4 in two MINUTES. */
    private void oneTaleMore() {
        write("p", 11);
        is("fault()", x.fault(), 11);
        is("lay()", x.lay(), NO);
        is("they still sit: pass(1)", x.pass(1), 790);
        write("0;t2,4,2,0;", 12);
        is("count(0)", x.count(0), 2);
        is("lay()", x.lay(), 3);
        is("count(9)", x.count(9), 23);
        is("sit(1, 0)", x.sit(1, 0), 0);
        is("pass(1)", x.pass(1), 4);
        is("hush(0)", x.hush(0), NO);
        is("pass(1)", x.pass(1), 8);
        is("pass(5)", x.pass(5), 58);
        is("person(1, 2)", x.person(1, 2), 0b1);
        is("stand()", x.stand(), 1);
        is("brings(0, 1, 3)", x.brings(0, 1, 3), 18);
        is("best(3, 0)", x.best(3, 0), 1);
        is("hush(0)", x.hush(0), 0);
        is("brings(0, 1, 3)", x.brings(0, 1, 3), 30);
        is("cost(3, 0)", x.cost(3, 0), NONE);
        is("undo()", x.undo(), 5);
        is("cost(3, 1)", x.cost(3, 1), 30);
        is("twos(3, 2)", x.twos(3, 2), NONE);
        is("held(1, 0, 3, 19, 4, 0)", x.held(1, 0, 3, 19, 4, 0), 2);
        is("held(1, 0, 3, 19, 4, 1)", x.held(1, 0, 3, 19, 4, 1), 5);
        // By the second draw of 0 the PERSONS 1 and 0 sit down, and 1 tells what it has heard.
        is("day(0, 3, 0)", x.day(0, 3, 0), 66);
        is("day(0, 3, 1)", x.day(0, 3, 1), 2);
    }

    /** 1 BUTTER a MINUTE; every nine MINUTES 1 has heard one TALE more. */
    private void nine() {
        is("wipe()", x.wipe(), 23);
        write(Towns.NINE, 0);
        is("lay()", x.lay(), 3);
        is("sit(0, 1)", x.sit(0, 1), 0b111111111);
        for (int minute = 1; minute <= 40; minute++) {
            is("pass(1)", x.pass(1), minute);
            is("person(1, 2)", x.person(1, 2), (1 << minute / 9) - 1);
        }
        is("quiet()", x.quiet(), 41);
        is("comes(81)", x.comes(81), 41);
        is("comes(82)", x.comes(82), NONE);
        is("hears(3, 1)", x.hears(3, 1), 0);
        is("hears(4, 1)", x.hears(4, 1), 1);
        is("stand()", x.stand(), 4);
        is("said(1, 0, 3, 0)", x.said(1, 0, 3, 0), 4);
        is("said(1, 0, 3, 1)", x.said(1, 0, 3, 1), 0b0111);
        is("who(60, 60, 0)", x.who(60, 60, 0), 2);
        is("count(6)", x.count(6), 13);
    }

    /** A row of four, in which 1 and 2 would leave 0 and 3 for one another. */
    private void wayHome() {
        is("wipe()", x.wipe(), 95);
        write(Towns.ROW, 0);
        is("fault()", x.fault(), NONE);
        is("the nine TALES are there yet", x.count(1), 9);
        is("lay()", x.lay(), 4);
        is("twos(1, -1)", x.twos(1, -1), 12);
        is("leave(1)", x.leave(1), 12);
        is("cost(1, 0)", x.cost(1, 0), 0);
        is("hush(1)", x.hush(1), 2);
        is("leave(1)", x.leave(1), NONE);
        is("sit(1, 2)", x.sit(1, 2), 0);
        is("quiet()", x.quiet(), 0);
        is("keep()", x.keep(), 1);
        is("undo()", x.undo(), 1);
        is("undo()", x.undo(), 0);
        is("leave(1)", x.leave(1), 12);
        is("back()", x.back(), 0);
        is("churn(1)", x.churn(1), 2);
        is("stand()", x.stand(), 0);
        is("sit(3, 2)", x.sit(3, 2), 0b100);
        is("pass(2)", x.pass(2), 6);
        is("stand()", x.stand(), 1);
    }

    /** The last calls: 2, who has heard TALE 2 of 3, tells it 1, and silence lasts to the end. */
    private void toTheEnd() {
        is("sit(1, 2)", x.sit(1, 2), 0);
        int minutes = 2;
        while (calls < Twin.CALLS - 2) {
            minutes++;
            is("pass(1)", x.pass(1), 12);
        }
        is("count(7)", x.count(7), 8);
        is("count(3)", x.count(3), minutes);
    }
}
