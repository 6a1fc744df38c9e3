/** Boundary cases of promises 18, 19 and 21: how all sit by twos, who would leave, which tale costs. */
public final class TwosBoundsTest {
    private static final int BAD = Bounds.BAD, NONE = Bounds.NONE;
    private static final Bounds BOUNDS = new Bounds();

    private static final String STRANGERS = "p3;p3;p3;t1,5,1,0;t2,6,1,1;";

    public static void main(String[] args) {
        twosNumbers();
        twosFewAndMany();
        twosOfSeveral();
        twosAlone();
        leaveNumbers();
        leaveNone();
        leaveFirst();
        costNumbers();
        costNone();
        costOfSeveral();
        BOUNDS.end(18, 19, 21);
    }

    private static void twosNumbers() {
        Bounds b = BOUNDS;
        Bounds.Way five = Towns.laid(Towns.FIVE);
        Bounds.Way six = Towns.laid(Towns.SIX);
        // In a MINUTE 23 bring 10, 01 and 04 bring 5; in 60 they bring 600, 19 and 10.
        b.ends(18, "twos(n, -1)", five, (x, n) -> x.twos(n, -1), 1, 15, 60, 619);
        b.ends(18, "twos(n, 3)", five, (x, n) -> x.twos(n, 3), 1, 2, 60, 2);
        b.ends(18, "twos(60, p) of six, from -1 on", six, (x, p) -> x.twos(60, p), -1, 15, 5, 0);
        b.ends(18, "twos(1, p) of five, two sitting", Towns::lively, (x, p) -> x.twos(1, p), -1, 15, 4, NONE);
        b.ends(18, "twos(1, p) of one", Towns.laid("p3;"), (x, p) -> x.twos(1, p), -1, 0, 0, NONE);
        b.asks(18, "the first PERSON of six", six, x -> x.twos(60, 0), 5);
        b.refuses(18, "no wrap-around by bits: 32", six, x -> x.twos(60, 32), BAD);
        b.refuses(18, "twos(0, -2)", five, x -> x.twos(0, -2), BAD);
    }

    /** TWOS: the sum, and with whom each PERSON sits. */
    private static void twosAre(String sentence, String town, int n, int sum, int... mates) {
        BOUNDS.asks(18, sentence + ": the sum", Towns.laid(town), x -> x.twos(n, -1), sum);
        for (int p = 0; p < mates.length; p++) {
            int asked = p;
            BOUNDS.asks(18, sentence + ": with " + p, Towns.laid(town), x -> x.twos(n, asked), mates[p]);
        }
    }

    private static void twosFewAndMany() {
        twosAre("no FRIENDS, all aside", STRANGERS, 60, 0, NONE, NONE, NONE);
        twosAre("FRIENDS who bring nothing are not aside", "p0;p0;f0,1;", 60, 0, 1, 0);
        twosAre("one is aside of three", "p3;p3;p3;f0,1;f1,2;f0,2;", 1, 10, 1, 0, NONE);
        twosAre("three pairs of six, the most: 600 each", "p3;p3;p3;p3;p3;p3;f0,3;f1,4;f2,5;", 60, 1800, 3, 4,
                5, 0, 1, 2);
        twosAre("all FRIENDS, all alike", "p3;p3;p3;p3;p3;p3;f0,1;f0,2;f0,3;f0,4;f0,5;f1,2;f1,3;f1,4;f1,5;"
                + "f2,3;f2,4;f2,5;f3,4;f3,5;f4,5;", 1, 30, 1, 0, 3, 2, 5, 4);
        twosAre("the first and the last alone are FRIENDS", Towns.SIX.replace("f4,5;", ""), 60, 15, 5, NONE,
                NONE, NONE, NONE, 0);
        twosAre("a star: one alone can sit with its middle", "p3;p3;p3;p3;p3;p3;f5,4;f5,3;f5,2;f5,1;f5,0;", 1, 10,
                5, NONE, NONE, NONE, NONE, 0);
    }

    private static void twosOfSeveral() {
        twosAre("the lowest sits with the lowest", "p3;p3;p3;p3;f0,3;f1,2;f0,2;f1,3;", 1, 20, 2, 3, 0, 1);
        twosAre("then the next lowest does", "p0;p3;p3;p3;f1,3;f1,2;", 1, 10, NONE, 2, 1, NONE);
        twosAre("aside is behind all", "p3;p3;p3;f0,2;f1,2;", 1, 10, 2, NONE, 0);
        twosAre("aside is behind all, for the next one, too", "p3;p3;p3;p3;p3;f0,1;f2,4;f3,4;", 1, 20, 1, 0, 4,
                NONE, 2);
        twosAre("more in sum is ahead of the lowest one with the lowest", "p3;p3;p0;p0;p3;p3;f0,4;f0,5;f1,4;", 1, 20,
                5, 4, NONE, NONE, 1, 0);
        // The row 0-1-2-3: 12 alone bring as much as 01 and 23.
        twosAre("two pairs and one bring the same", "p0;p0;p0;p0;f0,1;f1,2;f2,3;t3,5,1,0;t0,9,1,1;t0,4,1,3;", 1, 9,
                1, 0, 3, 2);
        twosAre("one pair brings one more than two", "p0;p0;p0;p0;f0,1;f1,2;f2,3;t3,4,1,0;t0,9,1,1;t0,4,1,3;", 1, 9,
                NONE, 2, 1, NONE);
        twosAre("two pairs bring one more than one", "p0;p0;p0;p0;f0,1;f1,2;f2,3;t3,5,1,0;t0,9,1,1;t0,5,1,3;", 1, 10,
                1, 0, 3, 2);
        twosAre("more by 1, behind in order", "p0;p0;p0;p0;f0,1;f0,2;t3,5,1,1;t3,6,1,2;", 1, 6, 2, NONE, 0, NONE);
    }

    private static void twosAlone() {
        Bounds b = BOUNDS;
        twosAre("the lower one is to tell", "p0;p0;p0;f0,1;t2,1,1,0;t2,9,1,1;", 1, 1, 1, 0, NONE);
        // 1 hears tale 0 of 0, but 1 and 2 sit as alone: 1 does not know it then.
        twosAre("each two as alone, by what is KNOWN now", "p0;p0;p0;p0;p0;f0,1;f2,3;t4,5,1,02;", 60, 10, 1, 0,
                3, 2, NONE);
        b.asks(18, "whoever SITS", Towns::lively, x -> x.twos(60, 2), 3);
        b.asks(18, "what is HUSHED brings nothing", Towns::lively, x -> x.twos(60, 0), 1);
        // 0 has heard tale 1 by now and tells 4 both: 5, 5, 7, 7, 7 are 31, more than 19 with 1.
        b.asks(18, "what was heard by now: the sum", Towns::stood, x -> x.twos(60, -1), 631);
        b.asks(18, "what was heard by now: with whom", Towns::stood, x -> x.twos(60, 4), 0);
    }

    private static void leaveNumbers() {
        Bounds b = BOUNDS;
        Bounds.Way row = Towns.laid(Towns.ROW);
        b.ends(19, "leave(n)", row, (x, n) -> x.leave(n), 1, 12, 60, 12);
        b.ends(19, "leave(n), two sitting", Towns::lively, (x, n) -> x.leave(n), 1, NONE, 60, NONE);
        b.ends(19, "leave(n), no FRIENDS", Towns.laid(STRANGERS), (x, n) -> x.leave(n), 1, NONE, 60, NONE);
        b.refuses(19, "leave(-1)", row, x -> x.leave(-1), BAD);
    }

    private static void leaveIs(String sentence, String town, int answer) {
        BOUNDS.asks(19, sentence, Towns.laid(town), x -> x.leave(1), answer);
    }

    /** A row of four that bring so much in a MINUTE: 01, 12, 23. */
    private static String row(int first, int middle, int last) {
        return "p0;p0;p0;p0;f0,1;f1,2;f2,3;t3," + first + ",1,0;t0," + middle + ",1,1;t0," + last + ",1,3;";
    }

    private static void leaveNone() {
        leaveIs("one PERSON", "p3;", NONE);
        leaveIs("two FRIENDS, who sit together", "p3;p3;f0,1;", NONE);
        leaveIs("both would have just as much", row(9, 9, 9), NONE);
        leaveIs("the lower one would have just as much", row(9, 9, 6), NONE);
        leaveIs("the other one would have just as much", row(6, 9, 9), NONE);
        leaveIs("the lower one would have less", row(9, 8, 6), NONE);
        leaveIs("the other one would have less", row(6, 8, 9), NONE);
        leaveIs("one aside has 0, and would leave; the other one would not",
                "p0;p0;p0;f0,1;f1,2;t2,6,1,0;t0,6,1,2;", NONE);
        leaveIs("two aside who bring 0 have no more than 0", "p0;p0;p0;p0;", NONE);
        leaveIs("two who would leave are no FRIENDS", "p0;p0;p0;p0;f0,1;f2,3;t3,6,1,0;t0,9,1,1;t0,6,1,3;", NONE);
        // Were 2 to tell, 12 would bring 9; 1 is to tell, and brings 5.
        leaveIs("the lower one is to tell", "p0;p0;p0;p0;f0,1;f1,2;f2,3;t3,6,1,0;t0,5,1,1;t3,9,1,2;t0,6,1,2;", NONE);
    }

    private static void leaveFirst() {
        leaveIs("one more for both is enough", row(8, 9, 8), 12);
        leaveIs("both would", row(6, 9, 6), 12);
        // In a row of six 01, 23 and 45 sit, 12 and 34 would leave.
        String six = "p0;p0;p0;p0;p0;p0;f0,1;f1,2;f2,3;f3,4;f4,5;t5,6,1,0;t0,7,1,1;t1,6,1,2;t2,8,1,3;t3,6,1,4;";
        leaveIs("of several the first, by the lower one", six, 12);
        BOUNDS.asks(19, "the last of several, the first one HUSHED", Towns.laid(six), x -> {
            x.hush(1);
            int answer = x.leave(1);
            x.undo();
            return answer;
        }, 34);
        // 1 tells 0 for 6, 2 for 7, 3 for 9; 24 and 35 bring 6: 01, 24, 35 sit, 02 and 03 would leave.
        leaveIs("of several with the same lower one, by the other", "p0;p0;p0;p0;p0;p0;f0,1;f0,2;f0,3;f2,4;f3,5;"
                + "t2,6,1,1;t4,7,1,2;t0,6,1,2;t5,9,1,3;t0,6,1,3;", 2);
        // A row 2-0-5-3 that brings 6, 9, 6.
        leaveIs("the first and the last one", "p0;p0;p0;p0;p0;p0;f0,2;f0,5;f3,5;t1,6,1,2;t2,9,1,0;t1,6,1,3;", 5);
    }

    private static void costNumbers() {
        Bounds b = BOUNDS;
        Bounds.Way five = Towns.laid(Towns.FIVE);
        b.ends(21, "cost(n, 1)", five, (x, n) -> x.cost(n, 1), 1, 10, 60, 600);
        b.ends(21, "cost(n, 0), two sitting", Towns::lively, (x, n) -> x.cost(n, 0), 1, 0, 60, 0);
        // 0 tells 1 ILL by 3, 5, 4, a MINUTE each: in two of them 5 and 4 bring most.
        Bounds.Way three = Towns.laid("p0;p0;p0;f0,1;t2,3,1,0;t2,5,1,0;t2,4,1,0;");
        b.ends(21, "cost(2, what)", three, (x, what) -> x.cost(2, what), 0, 0, 1, 9);
        Bounds.Way none = Towns.laid("p3;p3;f0,1;");
        b.ends(21, "cost(1, what), no TALES", none, (x, what) -> x.cost(1, what), 0, NONE, 1, NONE);
        b.beyond(21, "cost(n, 0), no TALES", none, (x, n) -> x.cost(n, 0), 1, 60);
        b.refuses(21, "cost(0, 2)", five, x -> x.cost(0, 2), BAD);
    }

    private static Bounds.Way hushed(String town, int... tales) {
        return () -> {
            ChurnTalk x = Due.laid(town);
            for (int t : tales) {
                x.hush(t);
            }
            return x;
        };
    }

    private static void costNone() {
        Bounds b = BOUNDS;
        b.ends(21, "cost(1, what), all HUSHED", hushed(Towns.ROW, 0, 1, 2), (x, what) -> x.cost(1, what), 0,
                NONE, 1, NONE);
        b.asks(21, "one alone not HUSHED, the last: which", hushed(Towns.ROW, 0, 1), x -> x.cost(1, 0), 2);
        b.asks(21, "one alone not HUSHED, the last: how much", hushed(Towns.ROW, 0, 1), x -> x.cost(1, 1), 0);
        b.asks(21, "no FRIENDS: the lowest", Towns.laid(STRANGERS), x -> x.cost(1, 0), 0);
        b.asks(21, "no FRIENDS: 0", Towns.laid(STRANGERS), x -> x.cost(1, 1), 0);
        b.asks(21, "no FRIENDS: the lowest that is not HUSHED", hushed(STRANGERS, 0), x -> x.cost(1, 0), 1);
        b.asks(21, "no FRIENDS, one not HUSHED: 0", hushed(STRANGERS, 0), x -> x.cost(1, 1), 0);
        b.asks(21, "no FRIENDS, all HUSHED: which", hushed(STRANGERS, 0, 1), x -> x.cost(1, 0), NONE);
        b.asks(21, "no FRIENDS, all HUSHED: how much", hushed(STRANGERS, 0, 1), x -> x.cost(1, 1), NONE);
        b.asks(21, "one PERSON: which", Towns.laid("p3;"), x -> x.cost(1, 0), NONE);
    }

    private static void costOfSeveral() {
        Bounds b = BOUNDS;
        Bounds.Way nine = Towns.laid("p0;p0;p0;f0,1;" + "t2,2,1,0;".repeat(8) + "t2,1,1,0;");
        b.asks(21, "the last of nine costs least", nine, x -> x.cost(60, 0), 8);
        b.asks(21, "the last of nine costs least: how much", nine, x -> x.cost(60, 1), 16);
        b.asks(21, "of several the lowest", nine, x -> x.cost(1, 0), 0);
        b.asks(21, "of several the lowest that is not HUSHED", hushed(Towns.NINE, 0, 1), x -> x.cost(9, 0), 2);
        b.asks(21, "more by 1 is enough", Towns.laid("p0;p0;p0;f0,1;t2,6,1,0;t2,5,1,0;"), x -> x.cost(60, 0), 1);
        b.asks(21, "less is still brought: 0 of one TALE", Towns.laid("p0;p0;p0;f0,1;t2,6,1,0;"),
                x -> x.cost(60, 1), 0);
        // Without the slow tale 0 there are MINUTES for tale 1.
        Bounds.Way slow = Towns.laid("p0;p0;p0;f0,1;t2,1,9,0;t2,20,9,0;");
        b.asks(21, "more comes without it: which", slow, x -> x.cost(9, 0), 0);
        b.asks(21, "more comes without it: how much", slow, x -> x.cost(9, 1), 180);
        b.asks(21, "one that is being told is not HUSHED either", () -> {
            ChurnTalk x = slow.make();
            x.sit(0, 1);
            x.pass(1);
            return x;
        }, x -> x.cost(9, 0), 0);
        b.asks(21, "no FRIENDS who KNOW it: it costs nothing", Towns.laid("p3;p3;p0;f0,1;t1,9,9,2;"),
                x -> x.cost(60, 1), 600);
    }
}
