/** Promises 14 to 21: what would come, were things to go on or two to sit down. */
public final class ComesTest {
    // As in ActsTest: by hand 0-1 bring 19 in all, 1-0 13, 1-2 and 2-1 99, 2-3 10 a minute,
    // 0-4 and 4-0 10.
    private static final String TOWN =
            "p0;p2;p3;p3;p1;f0,1;f2,3;f1,2;f0,4;t2,5,2,01;t3,7,3,1;t0,20,9,14;";
    // A row of four: 0-1 bring 6, 1-2 bring 9, 2-3 bring 6, each in one minute.
    private static final String ROW = "p0;p0;p0;p0;f0,1;f1,2;f2,3;t3,6,1,0;t0,9,1,1;t0,6,1,3;";
    private static final Due DUE = new Due();
    private static final int BAD = -1, NO = -2, NONE = -4;

    public static void main(String[] args) {
        comes();
        comesLate();
        quiet();
        brings();
        bringsWhoeverSits();
        best();
        twos();
        twosOfSeveral();
        leave();
        hears();
        cost();
        costOfSeveral();
        withoutFriends();
        DUE.end();
    }

    private static void comes() {
        ChurnTalk x = Due.laid(TOWN);
        DUE.is("nobody: comes(0)", x.comes(0), 0);
        DUE.is("nobody: comes(1)", x.comes(1), NONE);
        x.sit(0, 1);
        int[][] rows = {{0, 0}, {1, 1}, {5, 1}, {6, 2}, {10, 2}, {11, 3}, {13, 3}, {14, 4}, {19, 5},
            {20, NONE}, {999, NONE}, {-1, BAD}, {1000, BAD}};
        for (int[] row : rows) {
            DUE.is("comes(" + row[0] + ")", x.comes(row[0]), row[1]);
        }
        DUE.is("nothing changes", x.count(3), 0);
        DUE.is("nobody tells yet", x.churn(3), NONE);
        x.pass(1);
        DUE.is("butter that there is counts", x.comes(5), 0);
        DUE.is("a tale goes on", x.comes(10), 1);
        x.stand();
        DUE.is("standing: comes(5)", x.comes(5), 0);
        DUE.is("standing: comes(6)", x.comes(6), NONE);
    }

    private static void comesLate() {
        ChurnTalk x = Due.laid("p3;p3;p0;f0,1;" + "t2,1,9,0;".repeat(9));
        x.sit(0, 1);
        // 81 in 81 minutes, 10 a minute then: 461 at 119 minutes, 471 at 120.
        int[][] rows = {{81, 81}, {82, 82}, {91, 82}, {92, 83}, {461, 119}, {471, 120}, {472, NONE}};
        for (int[] row : rows) {
            DUE.is("late: comes(" + row[0] + ")", x.comes(row[0]), row[1]);
        }
        x.pass(1);
        DUE.is("a minute later", x.comes(472), 120);
    }

    private static void quiet() {
        ChurnTalk x = Due.laid(TOWN);
        DUE.is("quiet(), nobody", x.quiet(), NO);
        x.sit(0, 1);
        DUE.is("quiet()", x.quiet(), 5);
        x.pass(1);
        DUE.is("quiet() within a tale", x.quiet(), 4);
        x.pass(4);
        DUE.is("quiet(), all TOLD", x.quiet(), 0);
        x.pass(3);
        DUE.is("quiet(), silent since", x.quiet(), 0);
        x.stand();
        DUE.is("quiet(), standing", x.quiet(), NO);
        x.sit(2, 3);
        DUE.is("quiet(), nothing to tell", x.quiet(), 0);
        ChurnTalk y = Due.laid("p0;p0;p0;f0,1;" + "t2,1,9,0;".repeat(9));
        y.sit(0, 1);
        DUE.is("quiet(), nine of nine minutes", y.quiet(), 81);
        DUE.is("nothing changes", y.churn(3), NONE);
    }

    private static void bringsAre(ChurnTalk x, int a, int b, int[][] rows) {
        for (int[] row : rows) {
            DUE.is("brings(" + a + ", " + b + ", " + row[0] + ")", x.brings(a, b, row[0]), row[1]);
        }
    }

    private static void brings() {
        ChurnTalk x = Due.laid(TOWN);
        bringsAre(x, 0, 1, new int[][] {{1, 5}, {2, 10}, {3, 13}, {5, 19}, {60, 19}, {0, BAD}, {61, BAD}});
        bringsAre(x, 1, 0, new int[][] {{1, 2}, {2, 4}, {3, 7}, {5, 13}, {60, 13}});
        bringsAre(x, 1, 2, new int[][] {{1, 3}, {3, 9}, {4, 19}, {12, 99}, {60, 99}});
        bringsAre(x, 2, 1, new int[][] {{1, 3}, {12, 99}});
        bringsAre(x, 2, 3, new int[][] {{1, 10}, {60, 600}});
        bringsAre(x, 0, 4, new int[][] {{1, 5}, {60, 10}});
        bringsAre(x, 4, 0, new int[][] {{1, 5}, {60, 10}});
        DUE.is("no FRIENDS", x.brings(0, 2, 1), NO);
        DUE.is("no FRIENDS, n too low", x.brings(0, 2, 0), BAD);
        DUE.is("alike", x.brings(1, 1, 1), BAD);
        DUE.is("brings(5, 0, 1)", x.brings(5, 0, 1), BAD);
        DUE.is("brings(0, -1, 1)", x.brings(0, -1, 1), BAD);
        x.hush(1);
        DUE.is("brings(0, 1, 60), 1 hushed", x.brings(0, 1, 60), 10);
    }

    private static void bringsWhoeverSits() {
        ChurnTalk x = Due.laid(TOWN);
        x.sit(0, 1);
        x.pass(1);
        DUE.is("they who sit, anew", x.brings(0, 1, 60), 19);
        DUE.is("others", x.brings(1, 2, 12), 99);
        x.pass(4);
        // 0 knows tale 1 now: 0 tells tale 0, then 1 tells tale 1; or, 1 first, 0 tells tale 1.
        DUE.is("by what is known now: 0, 1", x.brings(0, 1, 60), 19);
        DUE.is("by what is known now: 1, 0", x.brings(1, 0, 60), 4 + 21);
        DUE.is("nothing changes: told", x.churn(5), 0b11);
        DUE.is("nothing changes: butter", x.count(4), 19);
    }

    private static void best() {
        ChurnTalk x = Due.laid(TOWN);
        DUE.is("best(60, 0)", x.best(60, 0), 23);
        DUE.is("best(60, 1)", x.best(60, 1), 600);
        ChurnTalk row = Due.laid(ROW);
        DUE.is("best(5, 0) of 12 and 21", row.best(5, 0), 12);
        DUE.is("best(5, 1)", row.best(5, 1), 9);
        row.hush(1);
        DUE.is("of 01, 10, 23, 32", row.best(5, 0), 1);
        row.hush(0);
        DUE.is("of 23, 32", row.best(5, 0), 23);
        row.hush(2);
        DUE.is("nobody brings any: the first", row.best(5, 0), 1);
        DUE.is("nobody brings any: 0", row.best(5, 1), 0);
        DUE.is("best(0, 0)", row.best(0, 0), BAD);
        DUE.is("best(61, 0)", row.best(61, 0), BAD);
        DUE.is("best(1, -1)", row.best(1, -1), BAD);
        DUE.is("best(1, 2)", row.best(1, 2), BAD);
        ChurnTalk lower = Due.laid("p0;p0;p0;f0,1;t2,9,1,0;t2,1,1,1;");
        DUE.is("the lower one first", lower.best(1, 0), 1);
        DUE.is("the lower one first: 9", lower.best(1, 1), 9);
        // 1 tells 9 then 0 tells 1: in one minute the other order brings more.
        ChurnTalk two = Due.laid("p0;p0;p0;f0,1;t2,1,1,0;t2,9,1,1;");
        DUE.is("the higher one first", two.best(1, 0), 10);
        DUE.is("the higher one first: 9", two.best(1, 1), 9);
        DUE.is("in two minutes alike", two.best(2, 0), 1);
    }

    private static void twosAre(ChurnTalk x, int n, int sum, int... mates) {
        DUE.is("twos(" + n + ", -1)", x.twos(n, -1), sum);
        for (int p = 0; p < mates.length; p++) {
            DUE.is("twos(" + n + ", " + p + ")", x.twos(n, p), mates[p]);
        }
    }

    private static void twos() {
        ChurnTalk x = Due.laid(TOWN);
        twosAre(x, 60, 619, 1, 0, 3, 2, NONE);
        // In a minute 01 bring 5, 04 5, 12 3, 23 10: 15 with 01 as with 04, and 1 comes ahead.
        twosAre(x, 1, 15, 1, 0, 3, 2, NONE);
        DUE.is("twos(1, -2)", x.twos(1, -2), BAD);
        DUE.is("twos(1, 5)", x.twos(1, 5), BAD);
        DUE.is("twos(0, -1)", x.twos(0, -1), BAD);
        DUE.is("twos(61, 0)", x.twos(61, 0), BAD);
        twosAre(Due.laid(ROW), 1, 12, 1, 0, 3, 2);
        x.sit(1, 2);
        x.pass(5);
        DUE.is("whoever sits", x.twos(60, -1), 619);
        // The lower one tells: in a minute 1, though the other one's brings 9.
        twosAre(Due.laid("p0;p0;p0;f0,1;t2,1,1,0;t2,9,1,1;"), 1, 1, 1, 0, NONE);
    }

    private static void twosOfSeveral() {
        twosAre(Due.laid("p0;p0;p0;f0,1;f0,2;f1,2;"), 1, 0, 1, 0, NONE);
        twosAre(Due.laid("p3;"), 60, 0, NONE);
        twosAre(Due.laid("p0;p0;p0;p0;f0,3;f1,2;f0,2;f1,3;"), 1, 0, 2, 3, 0, 1);
        twosAre(Due.laid("p3;p3;p3;p3;p3;p3;f0,5;f5,1;f1,4;f4,0;"), 1, 20, 4, 5, NONE, NONE, 0, 1);
        // 12 bring as much as 01 and 23 together: 0 with 1 comes ahead of 0 aside.
        twosAre(Due.laid("p0;p0;p0;p0;f0,1;f1,2;f2,3;t3,5,1,0;t0,9,1,1;t0,4,1,3;"), 1, 9, 1, 0, 3, 2);
        // 12 bring more.
        twosAre(Due.laid("p0;p0;p0;p0;f0,1;f1,2;f2,3;t3,4,1,0;t0,9,1,1;t0,4,1,3;"), 1, 9, NONE, 2, 1, NONE);
    }

    private static void leave() {
        ChurnTalk x = Due.laid(TOWN);
        DUE.is("1 would, 2 not", x.leave(60), NONE);
        DUE.is("leave(0)", x.leave(0), BAD);
        DUE.is("leave(61)", x.leave(61), BAD);
        DUE.is("1 and 2 both would", Due.laid(ROW).leave(1), 12);
        ChurnTalk alike = Due.laid("p0;p0;p0;p0;f0,1;f1,2;f2,3;t3,6,1,0;t0,6,1,1;t0,6,1,3;");
        DUE.is("just as much is not more", alike.leave(1), NONE);
        ChurnTalk high = Due.laid("p0;p0;p0;p0;f0,1;f1,2;f2,3;t3,6,1,0;t0,9,1,1;t0,9,1,3;");
        DUE.is("1 would, 2 has just as much", high.leave(1), NONE);
        ChurnTalk low = Due.laid("p0;p0;p0;p0;f0,1;f1,2;f2,3;t3,9,1,0;t0,9,1,1;t0,6,1,3;");
        DUE.is("2 would, 1 has just as much", low.leave(1), NONE);
        // A row 1-0-2-3 that bring 6, 9, 6.
        ChurnTalk nought = Due.laid("p0;p0;p0;p0;f0,1;f0,2;f2,3;t3,6,1,1;t1,9,1,0;t0,6,1,3;");
        twosAre(nought, 1, 12, 1, 0, 3, 2);
        DUE.is("0 and 2 would", nought.leave(1), 2);
        nought.hush(0);
        twosAre(nought, 1, 9, 2, NONE, 0, NONE);
        DUE.is("3 would, 2 not", nought.leave(1), NONE);
        // One aside has 0: in the row 0-1-2 with 6 and 6, 2 would, 1 not.
        ChurnTalk aside = Due.laid("p0;p0;p0;f0,1;f1,2;t2,6,1,0;t0,6,1,2;");
        DUE.is("one aside", aside.leave(1), NONE);
        // A row of six that bring 6, 7, 6, 7, 6 in a minute: 01, 23 and 45 sit together.
        ChurnTalk six = Due.laid("p0;p0;p0;p0;p0;p0;f0,1;f1,2;f2,3;f3,4;f4,5;"
                + "t5,6,1,0;t0,7,1,1;t1,6,1,2;t2,7,1,3;t3,6,1,4;");
        twosAre(six, 1, 18, 1, 0, 3, 2, 5, 4);
        DUE.is("12 and 34 would: the first", six.leave(1), 12);
        six.hush(1);
        DUE.is("34 alone would", six.leave(1), 34);
        DUE.is("no FRIENDS", Due.laid("p0;p0;").leave(1), NONE);
    }

    private static void hearsAre(ChurnTalk x, int t, int... sittings) {
        for (int p = 0; p < sittings.length; p++) {
            DUE.is("hears(" + t + ", " + p + ")", x.hears(t, p), sittings[p]);
        }
    }

    private static void hears() {
        ChurnTalk x = Due.laid(TOWN);
        hearsAre(x, 0, 0, 0, NONE, NONE, 1);
        hearsAre(x, 1, 1, 0, 1, NONE, 2);
        hearsAre(x, 2, NONE, 0, 1, 2, 0);
        DUE.is("hears(3, 0)", x.hears(3, 0), BAD);
        DUE.is("hears(-1, 0)", x.hears(-1, 0), BAD);
        DUE.is("hears(0, 5)", x.hears(0, 5), BAD);
        DUE.is("hears(0, -1)", x.hears(0, -1), BAD);
        x.sit(1, 2);
        x.pass(3);
        DUE.is("TOLD now, known now", x.hears(1, 2), 0);
        DUE.is("2 cannot tell 3 tale 1, of 3", x.hears(1, 3), NONE);
        x.hush(1);
        hearsAre(x, 1, NONE, 0, 0, NONE, NONE);
        // A row 0 .. 5, known at the end: five sittings; a WIDOW on the way ends it.
        hearsAre(Due.laid("p0;p2;p3;p0;p0;p0;f0,1;f1,2;f2,3;f3,4;t5,1,1,0;"), 0, 0, 1, 2, 3, 4, NONE);
        hearsAre(Due.laid("p0;p0;p0;p0;p0;f0,1;f1,2;f2,3;f3,4;f4,0;t2,1,1,0;"), 0, 0, 1, NONE, 2, 1);
        hearsAre(Due.laid("p0;p0;p1;p0;p0;f0,1;f1,2;f2,3;t4,1,1,0;"), 0, 0, 1, 2, NONE, NONE);
        hearsAre(Due.laid("p1;p0;p0;f0,1;t2,1,1,0;"), 0, 0, NONE, NONE);
        hearsAre(Due.laid("p0;p0;p0;p0;p0;p0;f1,0;f2,1;f3,2;f4,3;t5,1,1,04;"), 0, 0, 1, 2, 1, 0, NONE);
    }

    private static void cost() {
        ChurnTalk x = Due.laid(ROW);
        // Without tale 0 or 2, 12 still bring 9; without 1, 01 bring 6.
        DUE.is("cost(1, 0)", x.cost(1, 0), 0);
        DUE.is("cost(1, 1)", x.cost(1, 1), 9);
        x.hush(0);
        DUE.is("cost(1, 0), 0 hushed", x.cost(1, 0), 2);
        DUE.is("cost(1, 1), 0 hushed", x.cost(1, 1), 9);
        x.hush(2);
        DUE.is("cost(1, 0), 0 and 2 hushed", x.cost(1, 0), 1);
        DUE.is("cost(1, 1), 0 and 2 hushed", x.cost(1, 1), 0);
        x.hush(1);
        DUE.is("all hushed: cost(1, 0)", x.cost(1, 0), NONE);
        DUE.is("all hushed: cost(1, 1)", x.cost(1, 1), NONE);
        DUE.is("all hushed: cost(0, 0)", x.cost(0, 0), BAD);
        DUE.is("cost(61, 0)", x.cost(61, 0), BAD);
        DUE.is("cost(1, 2)", x.cost(1, 2), BAD);
        DUE.is("cost(1, -1)", x.cost(1, -1), BAD);
    }

    private static void costOfSeveral() {
        // A tale hushed can bring more: without the slow tale 0 there is time for tale 1.
        ChurnTalk x = Due.laid("p0;p0;p0;f0,1;t2,1,9,0;t2,20,9,0;");
        DUE.is("cost(9, 0)", x.cost(9, 0), 0);
        DUE.is("cost(9, 1)", x.cost(9, 1), 180);
        DUE.is("best(9, 1)", x.best(9, 1), 9);
        x.sit(0, 1);
        x.pass(1);
        DUE.is("tale 0 being told: cost(9, 0)", x.cost(9, 0), 0);
        DUE.is("nothing is hushed by it", x.count(5), 0);
        ChurnTalk alike = Due.laid("p0;p0;p0;f0,1;t2,7,1,0;t2,7,1,0;");
        DUE.is("of several the lowest", alike.cost(1, 0), 0);
    }

    private static void withoutFriends() {
        ChurnTalk x = Due.laid("p3;p3;p0;t2,9,9,0;t2,9,9,1;");
        DUE.is("no FRIENDS: best(1, 0)", x.best(1, 0), NONE);
        DUE.is("no FRIENDS: best(1, 1)", x.best(1, 1), NONE);
        twosAre(x, 1, 0, NONE, NONE, NONE);
        DUE.is("no FRIENDS: cost(1, 0)", x.cost(1, 0), 0);
        DUE.is("no FRIENDS: cost(1, 1)", x.cost(1, 1), 0);
        DUE.is("no FRIENDS: hears(0, 1)", x.hears(0, 1), NONE);
        ChurnTalk none = Due.laid("p3;p3;f0,1;");
        DUE.is("no TALE: cost(1, 0)", none.cost(1, 0), NONE);
        DUE.is("no TALE: hears(0, 0)", none.hears(0, 0), BAD);
        DUE.is("no TALE: hush(0)", none.hush(0), BAD);
    }
}
