/** Boundary cases of promises 22 and 23: which sets of tales were said, and who sat there. */
public final class SaidBoundsTest {
    private static final int BAD = Bounds.BAD, NONE = Bounds.NONE;
    private static final Bounds BOUNDS = new Bounds();

    /** 0 and 5 KNOW a TALE each; 3 KNOWS one of 0 and one of 5. Nobody has FRIENDS. */
    private static final String SIX = "p0;p0;p0;p0;p0;p0;t1,3,1,0;t1,3,1,5;t0,3,1,3;t5,3,1,3;";
    private static final String NINE_OF_20 = "p0;p0;p0;" + "t2,20,1,0;".repeat(9);
    /** 01 and 10 bring 999 in 54 MINUTES or more: five TALES of 180, one of 99. 23 and 32 bring 0. */
    private static final String BUTTER_999 = "p0;p0;p0;p0;p0;f0,1;f2,3;" + "t4,20,9,0;".repeat(5) + "t4,11,9,0;";

    public static void main(String[] args) {
        saidNumbers();
        saidBad();
        saidSums();
        saidTales();
        whoNumbers();
        whoNone();
        whoFirst();
        BOUNDS.end(22, 23);
    }

    private static void saidNumbers() {
        Bounds b = BOUNDS;
        Bounds.Way six = Towns.laid(SIX);
        b.ends(22, "said(a, 1, 3, 1)", Towns.laid(SIX.replace("t1", "t2")),
                (x, a) -> x.said(a, 1, 3, 1), 0, 0b0001, 5, 0b0010);
        b.ends(22, "said(3, b, 3, 1)", six, (x, a) -> x.said(3, a, 3, 1), 0, 0b1000, 5, 0b0100);
        b.beyond(22, "said(a, 0, 3, 0) of five", Towns::lively, (x, a) -> x.said(a, 0, 3, 0), 0, 4);
        b.beyond(22, "said(0, b, 3, 0) of five", Towns::lively, (x, a) -> x.said(0, a, 3, 0), 0, 4);
        Bounds.Way nine = Towns.laid(NINE_OF_20);
        b.ends(22, "said(0, 1, y, 0)", nine, (x, y) -> x.said(0, 1, y, 0), 0, 1, 180, 1);
        b.ends(22, "said(0, 1, y, 1)", nine, (x, y) -> x.said(0, 1, y, 1), 0, 0, 180, 0b111111111);
        b.ends(22, "said(0, 1, y, 1), two sitting", Towns::lively, (x, y) -> x.said(0, 1, y, 1), 0, 0, 180, NONE);
        b.ends(22, "said(0, 1, 20, what)", nine, (x, what) -> x.said(0, 1, 20, what), 0, 9, 1, 0b1);
        b.ends(22, "said(0, 1, 21, what), none such", nine, (x, what) -> x.said(0, 1, 21, what), 0, 0, 1, NONE);
    }

    private static void saidBad() {
        Bounds b = BOUNDS;
        b.refuses(22, "alike: the first", Towns::lively, x -> x.said(0, 0, 0, 0), BAD);
        b.refuses(22, "alike: the last", Towns::lively, x -> x.said(4, 4, 0, 0), BAD);
        b.refuses(22, "alike, and none such", Towns::lively, x -> x.said(5, 5, 0, 0), BAD);
        b.refuses(22, "no wrap-around by bits: 32", Towns::lively, x -> x.said(32, 1, 5, 0), BAD);
        b.refuses(22, "none such: all four", Towns::lively, x -> x.said(-1, 5, 181, 2), BAD);
        b.refuses(22, "no sum, though no TALES can be told: 181", Towns.laid("p0;p0;"), x -> x.said(0, 1, 181, 0), BAD);
    }

    /** How many sets there are, and the lowest. */
    private static void saidIs(String sentence, String town, int a, int b, int y, int sets, int lowest) {
        BOUNDS.asks(22, sentence + ": how many", Towns.laid(town), x -> x.said(a, b, y, 0), sets);
        BOUNDS.asks(22, sentence + ": the lowest", Towns.laid(town), x -> x.said(a, b, y, 1), lowest);
    }

    private static void saidSums() {
        saidIs("0 of no TALES: the empty set", "p0;p0;", 0, 1, 0, 1, 0);
        saidIs("1 of no TALES: none", "p0;p0;", 0, 1, 1, 0, NONE);
        saidIs("180 of no TALES: none", "p0;p0;", 0, 1, 180, 0, NONE);
        saidIs("0 of nine TALES: the empty set alone", NINE_OF_20, 0, 1, 0, 1, 0);
        saidIs("160: one of nine left out", NINE_OF_20, 0, 1, 160, 9, 0b011111111);
        saidIs("80: four of nine", NINE_OF_20, 0, 1, 80, 126, 0b000001111);
        saidIs("one less than all: none", NINE_OF_20, 0, 1, 179, 0, NONE);
        saidIs("one more than one of them: none", NINE_OF_20, 0, 1, 21, 0, NONE);
        saidIs("all of two", "p0;p0;p0;t2,1,1,0;t2,2,1,0;", 0, 1, 3, 1, 0b11);
        saidIs("one more than all of two", "p0;p0;p0;t2,1,1,0;t2,2,1,0;", 0, 1, 4, 0, NONE);
        saidIs("the lowest as bits: 01 and 2 are below 3", "p0;p0;p0;t2,1,1,0;t2,2,1,0;t2,3,9,0;t2,3,1,0;", 0,
                1, 3, 3, 0b0011);
        saidIs("the lowest as bits: 2 is below 3 and 0", "p0;p0;p0;t2,1,1,0;t2,5,1,0;t2,4,1,0;t2,3,1,0;", 0, 1,
                4, 2, 0b0100);
    }

    private static void saidTales() {
        Bounds b = BOUNDS;
        saidIs("a WIDOW tells none: the empty set", "p1;p0;p0;t2,3,1,0;", 0, 1, 0, 1, 0);
        saidIs("a WIDOW tells none", "p1;p0;p0;t2,3,1,0;", 0, 1, 3, 0, NONE);
        saidIs("a WIDOW is told", "p0;p1;p0;t2,3,1,0;", 0, 1, 3, 1, 0b1);
        saidIs("none of the other one", "p0;p0;p0;t1,3,1,0;t2,3,1,0;", 0, 1, 3, 1, 0b10);
        saidIs("none that the first one does not know", "p0;p0;p0;t2,3,1,1;t2,3,1,0;", 0, 1, 3, 1, 0b10);
        saidIs("one that the other one KNOWS, too", "p0;p0;p0;t2,3,1,01;", 0, 1, 3, 1, 0b1);
        saidIs("FRIENDS as well", "p0;p0;p0;f0,1;t2,3,1,0;", 0, 1, 3, 1, 0b1);
        saidIs("I whole, of a PARSON, too", "p2;p0;p0;t2,3,1,0;", 0, 1, 3, 1, 0b1);
        saidIs("I once, whatever MINUTES it takes", "p0;p0;p0;t2,3,9,0;", 0, 1, 3, 1, 0b1);
        b.asks(22, "none that is HUSHED", Towns::lively, x -> x.said(1, 2, 20, 0), 0);
        b.asks(22, "one that is being told", Towns::lively, x -> x.said(0, 1, 5, 0), 1);
        b.asks(22, "nothing TOLD yet: one that was, and was heard", Towns::stood, x -> x.said(0, 1, 12, 1), 0b011);
        b.asks(22, "nothing TOLD yet: while they still sit", () -> {
            ChurnTalk x = Towns.stood();
            x.undo();
            return x;
        }, x -> x.said(0, 1, 12, 1), 0b011);
    }

    private static void whoNumbers() {
        Bounds b = BOUNDS;
        Bounds.Way five = Towns.laid(Towns.FIVE);
        // 10 is what 23 and 32 bring in a MINUTE, and 04 and 40 in 60.
        b.ends(23, "who(n, 10, 1)", five, (x, n) -> x.who(n, 10, 1), 1, 23, 60, 4);
        // Tale 2 is HUSHED there: 12 and 21 bring 3 in a MINUTE and 9 in 60.
        b.ends(23, "who(n, 9, 0), two sitting", Towns::lively, (x, n) -> x.who(n, 9, 0), 1, 0, 60, 2);
        Bounds.Way most = Towns.laid(BUTTER_999);
        b.ends(23, "who(60, y, 0)", most, (x, y) -> x.who(60, y, 0), 0, 2, 999, 2);
        b.ends(23, "who(60, y, 1)", most, (x, y) -> x.who(60, y, 1), 0, 23, 999, 1);
        b.ends(23, "who(1, y, 1), two sitting", Towns::lively, (x, y) -> x.who(1, y, 1), 0, NONE, 999, NONE);
        b.ends(23, "who(60, 19, what)", five, (x, what) -> x.who(60, 19, what), 0, 1, 1, 1);
        b.ends(23, "who(60, 600, what)", five, (x, what) -> x.who(60, 600, what), 0, 2, 1, 23);
        b.ends(23, "who(60, 601, what), none such", five, (x, what) -> x.who(60, 601, what), 0, 0, 1, NONE);
        b.refuses(23, "1000 is not told, though it is brought",
                Towns.laid("p0;p0;p0;f0,1;" + "t2,20,9,0;".repeat(7)), x -> x.who(50, 1000, 0), BAD);
        b.refuses(23, "none such: all three", five, x -> x.who(0, -1, 2), BAD);
    }

    /** How many bring it in so many MINUTES, and the first ones. */
    private static void whoIs(String sentence, String town, int n, int y, int twos, int first) {
        BOUNDS.asks(23, sentence + ": how many", Towns.laid(town), x -> x.who(n, y, 0), twos);
        BOUNDS.asks(23, sentence + ": the first", Towns.laid(town), x -> x.who(n, y, 1), first);
    }

    private static void whoNone() {
        whoIs("no FRIENDS, 0", "p0;p0;", 60, 0, 0, NONE);
        whoIs("no FRIENDS, 10", "p3;p3;", 1, 10, 0, NONE);
        whoIs("one PERSON", "p0;", 60, 0, 0, NONE);
        whoIs("one less than what they bring", "p3;p3;f0,1;", 60, 599, 0, NONE);
        whoIs("just what they bring", "p3;p3;f0,1;", 60, 600, 2, 1);
        whoIs("one more than what they bring", "p3;p3;f0,1;", 60, 601, 0, NONE);
        whoIs("a MINUTE too few for 999", BUTTER_999, 53, 999, 0, NONE);
        whoIs("just MINUTES enough for 999", BUTTER_999, 54, 999, 2, 1);
        whoIs("FRIENDS who bring nothing: 0", "p0;p0;p0;f1,2;", 60, 0, 2, 12);
    }

    private static void whoFirst() {
        whoIs("one order alone, the higher first", "p0;p0;p0;f0,1;t2,1,1,0;t2,2,1,1;", 1, 2, 1, 10);
        whoIs("one order alone, the lower first", "p0;p0;p0;f0,1;t2,1,1,0;t2,2,1,1;", 1, 1, 1, 1);
        whoIs("both orders, the lower first", "p0;p0;p0;f0,1;t2,1,1,0;t2,2,1,1;", 2, 3, 2, 1);
        whoIs("the last two of six", "p0;p0;p0;p0;p3;p3;f0,1;f4,5;", 1, 10, 2, 45);
        whoIs("the last order of all", "p0;p0;p0;p0;p0;p0;f4,5;t0,1,1,4;t0,2,1,5;", 1, 2, 1, 54);
        whoIs("all 30 orders of six", "p3;p3;p3;p3;p3;p3;f0,1;f0,2;f0,3;f0,4;f0,5;f1,2;f1,3;f1,4;f1,5;"
                + "f2,3;f2,4;f2,5;f3,4;f3,5;f4,5;", 60, 600, 30, 1);
        whoIs("by the first one, then the other", "p3;p3;p3;f1,2;f0,2;", 1, 10, 4, 2);
    }
}
