/** Boundary cases of promises 24 to 28: tales held back, days, what is kept, counts. */
public final class HeldDayBoundsTest {
    private static final int BAD = Bounds.BAD, NO = Bounds.NO, FULL = Bounds.FULL, NONE = Bounds.NONE;
    private static final Bounds BOUNDS = new Bounds();

    private static final String TWO_YOUNG = "p3;p3;f0,1;";
    /** 0 can tell 1 ILL by 9 in two MINUTES, 1 can tell 0 ILL by 5 in two. */
    private static final String TWO_TALES = "p0;p0;p0;f0,1;t2,9,2,0;t2,5,2,1;";
    /** 01 and 10 bring 999 in 54 MINUTES or more: five TALES of 180, one of 99. */
    private static final String BUTTER_999 = "p0;p0;p0;f0,1;" + "t2,20,9,0;".repeat(5) + "t2,11,9,0;";

    public static void main(String[] args) {
        heldNumbers();
        heldRefused();
        heldChances();
        heldTales();
        dayNumbers();
        dayDraws();
        daySitting();
        dayStanding();
        dayHushing();
        dayGoesOn();
        keep();
        back();
        backIsAsKept();
        countNumbers();
        countLeast();
        countMost();
        BOUNDS.end(24, 25, 26, 27, 28);
    }

    private static void heldNumbers() {
        Bounds b = BOUNDS;
        Bounds.Way six = Towns.laid(Towns.SIX);
        Bounds.Way five = Towns.laid(Towns.FIVE);
        // In a MINUTE 0 tells 5 ILL by 1, or by 2 if tale 0 is held back, but not all seven of 2:
        // 3 of ten times (10000000 - 2187) of 10000000.
        b.asks(24, "the first PERSON first, the last one the other", six, x -> x.held(0, 5, 1, 2, 3, 0), 29993439);
        b.asks(24, "the last PERSON first, the first one the other", six, x -> x.held(5, 0, 1, 2, 3, 0), 29993439);
        b.beyond(24, "held(a, 5, ..)", six, (x, a) -> x.held(a, 5, 1, 1, 3, 0), 0, 5);
        b.beyond(24, "held(0, b, ..)", six, (x, a) -> x.held(0, a, 1, 1, 3, 0), 0, 5);
        b.beyond(24, "held(a, 1, ..) of five", Towns::lively, (x, a) -> x.held(a, 1, 1, 1, 3, 0), 0, 4);
        b.beyond(24, "held(1, b, ..) of five", Towns::lively, (x, a) -> x.held(1, a, 1, 1, 3, 0), 0, 4);
        b.ends(24, "held(2, 3, n, 600, 0, 0)", five, (x, n) -> x.held(2, 3, n, 600, 0, 0), 1, 0, 60, 1);
        b.ends(24, "held(0, 1, n, 5, 3, 0), two sitting", Towns::lively, (x, n) -> x.held(0, 1, n, 5, 3, 0), 1,
                7, 60, 91);
        b.ends(24, "held(0, 1, 54, h, 1, 1)", Towns.laid(BUTTER_999), (x, h) -> x.held(0, 1, 54, h, 1, 1), 0, 1,
                999, 1000000);
        b.ends(24, "held(0, 1, 54, h, 1, 0)", Towns.laid(BUTTER_999), (x, h) -> x.held(0, 1, 54, h, 1, 0), 0, 1,
                999, 531441);
        b.ends(24, "held(0, 1, 60, 19, x, 0)", five, (x, tenths) -> x.held(0, 1, 60, 19, tenths, 0), 0, 1, 10, 0);
        b.ends(24, "held(0, 1, 60, 0, x, 0), two sitting", Towns::lively,
                (x, tenths) -> x.held(0, 1, 60, 0, tenths, 0), 0, 1, 10, 1);
        b.ends(24, "held(0, 1, 60, 19, 3, part)", five, (x, part) -> x.held(0, 1, 60, 19, 3, part), 0, 49, 1, 100);
    }

    private static void heldRefused() {
        Bounds b = BOUNDS;
        b.refuses(24, "alike: the first", Towns::lively, x -> x.held(0, 0, 1, 0, 0, 0), BAD);
        b.refuses(24, "alike: the last", Towns::lively, x -> x.held(4, 4, 1, 0, 0, 0), BAD);
        b.refuses(24, "no FRIENDS", Towns::lively, x -> x.held(0, 2, 1, 0, 0, 0), NO);
        b.refuses(24, "no FRIENDS, the other way round", Towns::lively, x -> x.held(2, 0, 60, 999, 10, 1), NO);
        b.refuses(24, "nobody has FRIENDS", Towns.laid("p3;p3;"), x -> x.held(0, 1, 1, 0, 0, 0), NO);
        b.refuses(24, "no FRIENDS, and 61 MINUTES", Towns::lively, x -> x.held(0, 2, 61, 0, 0, 0), BAD);
        b.refuses(24, "no FRIENDS, and 1000 BUTTER", Towns::lively, x -> x.held(0, 2, 1, 1000, 0, 0), BAD);
        b.refuses(24, "no FRIENDS, and 11 of ten", Towns::lively, x -> x.held(0, 2, 1, 0, 11, 0), BAD);
        b.refuses(24, "no FRIENDS, and no such part", Towns::lively, x -> x.held(0, 2, 1, 0, 0, 2), BAD);
        b.refuses(24, "1000 is not told, though it is brought",
                Towns.laid("p0;p0;p0;f0,1;" + "t2,20,9,0;".repeat(7)), x -> x.held(0, 1, 60, 1000, 0, 0), BAD);
    }

    /** The chance, above and below. */
    private static void heldIs(String sentence, String town, int n, int h, int tenths, int above, int below) {
        BOUNDS.asks(24, sentence + ": above", Towns.laid(town), x -> x.held(0, 1, n, h, tenths, 0), above);
        BOUNDS.asks(24, sentence + ": below", Towns.laid(town), x -> x.held(0, 1, n, h, tenths, 1), below);
    }

    private static void heldChances() {
        heldIs("0 in lowest terms", TWO_TALES, 60, 29, 3, 0, 1);
        heldIs("0 in lowest terms, all held back", TWO_TALES, 60, 1, 10, 0, 1);
        heldIs("1 in lowest terms: 0 BUTTER or more", TWO_TALES, 60, 0, 3, 1, 1);
        heldIs("1 in lowest terms: none held back", TWO_TALES, 60, 28, 0, 1, 1);
        heldIs("just h is enough", TWO_TALES, 60, 28, 3, 49, 100);
        heldIs("one of two, the ILLER one", TWO_TALES, 60, 18, 3, 7, 10);
        heldIs("either of two", TWO_TALES, 60, 10, 3, 91, 100);
        heldIs("lowest terms: 3 of 4", TWO_TALES, 60, 10, 5, 3, 4);
        heldIs("lowest terms: 1 of 5", TWO_TALES, 60, 18, 8, 1, 5);
        heldIs("one of ten", TWO_TALES, 60, 18, 9, 1, 10);
        heldIs("nine of ten", TWO_TALES, 60, 18, 1, 9, 10);
        heldIs("nine TALES, all told", Towns.NINE, 60, 60, 0, 1, 1);
        heldIs("nine TALES, seven or more told", Towns.NINE, 60, 60, 5, 23, 256);
        heldIs("nine TALES, none held back by 9 of ten", "p0;p0;p0;f0,1;" + "t2,1,1,0;".repeat(9), 9, 9, 9, 1,
                1000000000);
        heldIs("nine TALES, not all held back by 1 of ten", "p0;p0;p0;f0,1;" + "t2,1,1,0;".repeat(9), 9, 1, 1,
                999999999, 1000000000);
        heldIs("silence of two YOUNG ones, all held back", "p3;p3;p0;f0,1;t2,1,1,0;", 1, 10, 10, 1, 1);
        heldIs("no TALES: 0", TWO_YOUNG, 60, 601, 5, 0, 1);
        heldIs("no TALES: 1", TWO_YOUNG, 60, 600, 5, 1, 1);
    }

    private static void heldTales() {
        Bounds b = BOUNDS;
        heldIs("more comes if the slow one is held back", "p0;p0;p0;f0,1;t2,1,9,0;t2,20,9,0;", 9, 180, 3, 21, 100);
        heldIs("what nobody tells makes no difference", "p0;p0;p0;f0,1;t2,7,1,0;t0,9,9,2;t1,9,9,2;", 60, 7, 3, 7, 10);
        b.asks(24, "a HUSHED one is not held back by chance: above", Towns::lively, x -> x.held(1, 2, 60, 9, 3, 0), 7);
        b.asks(24, "a HUSHED one is not held back by chance: below", Towns::lively, x -> x.held(1, 2, 60, 9, 3, 1), 10);
        b.asks(24, "a HUSHED one is never told", Towns::lively, x -> x.held(1, 2, 60, 10, 0, 0), 0);
        b.asks(24, "one that is being told is held back, too", Towns::lively, x -> x.held(0, 1, 60, 10, 10, 0), 0);
        b.asks(24, "BUTTER that there is does not count", Towns::stood, x -> x.held(0, 1, 1, 6, 0, 0), 0);
        b.asks(24, "the first one is to tell", Towns.laid(Towns.FIVE), x -> x.held(1, 0, 1, 5, 0, 0), 0);
    }

    private static ChurnTalk sat(String town) {
        ChurnTalk x = Due.laid(town);
        x.sit(0, 1);
        return x;
    }

    /** DRAW, as told, far from any bound of its numbers. */
    private static int draw(int z, int k) {
        java.math.BigInteger x = java.math.BigInteger.valueOf(7919L * z + 6151L * k + 1);
        return x.multiply(x).mod(java.math.BigInteger.valueOf(65521)).intValue();
    }

    /** The BUTTER of two YOUNG ones who have no TALES: 10 for each MINUTE in which they sit. */
    private static int silentDay(int z, int n) {
        int butter = 0;
        boolean sits = false;
        for (int k = 0; k < n; k++) {
            sits = sits ? draw(z, k) % 8 != 0 : draw(z, k) / 8 % 2 != draw(z, k) / 64 % 2;
            butter += sits ? 10 : 0;
        }
        return butter;
    }

    // DRAWS, and what is left of them by 8, of them by 8 and by 64, cut: z = 0: k = 0: 1 (1; 0, 0),
    // k = 1: 41487 (7; 5185, 648). z = 9999: k = 0: 51303 (7; 6412, 801), k = 1: 32612 (4; ..).
    private static void dayNumbers() {
        Bounds b = BOUNDS;
        Bounds.Way young = Towns.laid(TWO_YOUNG);
        b.ends(25, "day(z, 2, 0)", young, (x, z) -> x.day(z, 2, 0), 0, 10, 9999, 20);
        b.ends(25, "day(z, 1, 0), two sitting", Towns::lively, (x, z) -> x.day(z, 1, 0), 0, 10, 9999, 10);
        b.ends(25, "day(9999, n, 0)", young, (x, n) -> x.day(9999, n, 0), 1, 10, 60, silentDay(9999, 60));
        b.ends(25, "day(0, n, 0)", young, (x, n) -> x.day(0, n, 0), 1, 0, 60, silentDay(0, 60));
        b.ends(25, "day(0, 2, what)", Towns.laid(TWO_TALES), (x, what) -> x.day(0, 2, what), 0, 5, 1, 2);
        b.beyond(25, "day(1, n, 0), two sitting", Towns::lively, (x, n) -> x.day(1, n, 0), 1, 60);
        b.beyond(25, "day(1, 1, what), two sitting", Towns::lively, (x, what) -> x.day(1, 1, what), 0, 1);
        b.refuses(25, "day(-1, 0, 2)", young, x -> x.day(-1, 0, 2), BAD);
        b.refuses(25, "day(10000, 61, -1)", young, x -> x.day(10000, 61, -1), BAD);
        for (int n = 2; n <= 59; n++) {
            int asked = n;
            b.asks(25, "a DAY of " + n + " MINUTES", young, x -> x.day(9999, asked, 0), silentDay(9999, n));
        }
    }

    // z = 7192, k = 0: 65519 (7; 8189, 1023), of six: 5, 3. z = 3653, k = 0: 65518 (6).
    // z = 862, k = 2: 65520, the largest (0). z = 3323, k = 4: 0, the smallest.
    private static void dayDraws() {
        Bounds b = BOUNDS;
        String six = "p0;p0;p0;p3;p0;p3;f5,3;";
        Bounds.must("DRAW by 7192, 0", draw(7192, 0) == 65519);
        Bounds.must("DRAW by 3653, 0", draw(3653, 0) == 65518);
        Bounds.must("DRAW by 862, 2", draw(862, 2) == 65520);
        Bounds.must("DRAW by 3323, 4", draw(3323, 4) == 0);
        Bounds.must("DRAW by 9999, 0", draw(9999, 0) == 51303);
        Bounds.must("nobody stands up ahead by 862", draw(862, 0) % 8 != 0 && draw(862, 1) % 8 != 0);
        b.asks(25, "nearly the largest DRAW: 5 and 3 of six sit", Towns.laid(six), x -> x.day(7192, 1, 0), 10);
        b.asks(25, "nearly the largest DRAW leaves two sitting", () -> sat(TWO_YOUNG), x -> x.day(3653, 1, 0), 10);
        b.run(25, "the largest DRAW: they stand up", due -> {
            ChurnTalk x = sat(TWO_YOUNG);
            due.is("day(862, 2, 0)", x.day(862, 2, 0), 20);
            due.is("day(862, 3, 0)", x.day(862, 3, 0), 20);
        });
        // z = 3323, of five: k = 0: 2, 4; k = 1: 1, 3, who sit; k = 2: 51215 (7); k = 3: 29184 (0),
        // they stand up; k = 4: 0, so 0 and 0 are alike; k = 5: 29184 again, 3 and 1 sit.
        String five = "p0;p3;p0;p3;p0;f1,3;f0,2;";
        b.asks(25, "the smallest DRAW: nobody can sit", Towns.laid(five), x -> x.day(3323, 5, 0), 20);
        b.asks(25, "behind the smallest DRAW two sit again", Towns.laid(five), x -> x.day(3323, 6, 0), 30);
    }

    private static void daySitting() {
        Bounds b = BOUNDS;
        b.asks(25, "nobody SITS: alike cannot", Towns.laid(TWO_YOUNG), x -> x.day(0, 1, 0), 0);
        b.asks(25, "one PERSON is always alike", Towns.laid("p3;"), x -> x.day(9999, 60, 0), 0);
        b.asks(25, "no FRIENDS cannot", Towns.laid("p3;p3;"), x -> x.day(9999, 60, 0), 0);
        b.asks(25, "FRIENDS can", Towns.laid(TWO_YOUNG), x -> x.day(9999, 1, 0), 10);
        // z = 0, k = 1, of three: 5185 modulo 3 is 1, 648 modulo 3 is 0.
        b.asks(25, "by 8 the first one, who is to tell", Towns.laid("p0;p0;p0;f0,1;t2,9,1,0;t2,4,1,1;"),
                x -> x.day(0, 2, 0), 4);
        // z = 5, k = 0: 56728 (0; 7091, 886): they sit down, and are not asked to stand up at once.
        b.asks(25, "who sits down does not stand up in this MINUTE", Towns.laid(TWO_YOUNG), x -> x.day(5, 1, 0), 10);
        // k = 1: 1 and 0 sit, k = 1, 2: tale 1 (5, 5), k = 3: tale 0 (9).
        b.asks(25, "nobody SITS: none is HUSHED by a DRAW of 1", Towns.laid(TWO_TALES), x -> x.day(0, 4, 0), 19);
    }

    private static void dayStanding() {
        Bounds b = BOUNDS;
        b.asks(25, "DRAW modulo 8 is 0: they stand up ahead of the MINUTE", () -> sat(TWO_YOUNG),
                x -> x.day(5, 1, 0), 0);
        b.asks(25, "DRAW modulo 8 is 0, a TALE being told: it was not TOLD", () -> {
            ChurnTalk x = sat(TWO_TALES);
            x.pass(1);
            return x;
        }, x -> x.day(5, 1, 1), 2);
        b.asks(25, "DRAW modulo 8 is 3: they go on", () -> sat(TWO_YOUNG), x -> x.day(1, 1, 0), 10);
        b.asks(25, "DRAW modulo 8 is 7: they go on", () -> sat(TWO_YOUNG), x -> x.day(9999, 1, 0), 10);
    }

    /** 0 can tell 1 ILL by 1 to 9, but for all that are HUSHED: of 0 to 8 these two are left. */
    private static ChurnTalk satWithLeft(int one, int another) {
        StringBuilder text = new StringBuilder("p0;p0;p0;f0,1;");
        for (int ill = 1; ill <= 9; ill++) {
            text.append("t2,").append(ill).append(",1,0;");
        }
        ChurnTalk x = Due.laid(text.toString());
        for (int t = 0; t <= 8; t++) {
            if (t != one && t != another) {
                x.hush(t);
            }
        }
        x.sit(0, 1);
        return x;
    }

    // z = 0, k = 0: 1 (1; 0). z = 7, k = 0: 58977 (1; 7372, of nine: 1; of two: 0).
    // z = 8, k = 0: 48233 (1; 6029, of nine: 8).
    private static void dayHushing() {
        Bounds b = BOUNDS;
        b.asks(25, "DRAW modulo 8 is 1: a TALE is HUSHED ahead of the MINUTE", () -> sat(TWO_TALES),
                x -> x.day(0, 1, 0), 5);
        b.asks(25, "DRAW modulo 8 is 1: modulo as many TALES as there are", () -> sat(TWO_TALES),
                x -> x.day(7, 1, 0), 5);
        b.asks(25, "DRAW modulo 8 is 1: tale 1 of nine", () -> satWithLeft(1, 2), x -> x.day(7, 1, 0), 3);
        b.asks(25, "DRAW modulo 8 is 1: tale 8 of nine, the last", () -> satWithLeft(8, 9), x -> x.day(8, 1, 0), 0);
        b.asks(25, "DRAW modulo 8 is 1: tale 0 of nine, the first", () -> satWithLeft(0, 1), x -> x.day(0, 1, 0), 2);
        b.asks(25, "DRAW modulo 8 is 1, and there is no TALE", () -> sat(TWO_YOUNG), x -> x.day(0, 1, 0), 10);
        b.asks(25, "it is being told: it can't be HUSHED", () -> {
            ChurnTalk x = sat(TWO_TALES);
            x.pass(1);
            return x;
        }, x -> x.day(0, 1, 0), 18);
        // z = 69: k = 0: 46465 (1), k = 1: 40120 (0), k = 2: 26622 (6; 3327, 415: of three 0, 1).
        b.asks(25, "it was being told, and not HUSHED: it is told in the next sitting", () -> {
            ChurnTalk x = sat("p0;p0;p0;f0,1;t2,9,2,0;");
            x.pass(1);
            return x;
        }, x -> x.day(69, 3, 0), 27);
        b.asks(25, "it is HUSHED: all goes on", Towns::hushedAndSat, x -> x.day(0, 1, 0), 5);
        b.asks(25, "the one TALE is HUSHED: nobody hears it", () -> sat("p0;p0;p0;f0,1;t2,9,1,0;"),
                x -> x.day(0, 1, 1), 1);
        b.asks(25, "a HUSHED TALE is KNOWN, and counts", () -> sat("p0;p0;p0;f0,1;t2,9,1,01;"), x -> x.day(0, 1, 1), 2);
    }

    private static void dayGoesOn() {
        Bounds b = BOUNDS;
        b.asks(25, "from now on: BUTTER that there is counts", Towns::stood, x -> x.day(0, 1, 0), 19);
        b.asks(25, "from now on: a TALE goes on", Towns::lively, x -> x.day(1, 1, 0), 10);
        b.asks(25, "from now on: TALES that were heard count", Towns::stood, x -> x.day(0, 1, 1), 6);
        b.asks(25, "TALES that all KNOW: one more at its last MINUTE", Towns::lively, x -> x.day(1, 1, 1), 5);
        b.asks(25, "k is told from this DAY's first MINUTE on", () -> {
            ChurnTalk x = Due.laid(TWO_YOUNG);
            x.pass(60);
            return x;
        }, x -> x.day(9999, 1, 0), 10);
        b.run(25, "a DAY asked twice is the same", due -> {
            ChurnTalk x = new ChurnTalk();
            due.is("day(77, 60, 0)", x.day(77, 60, 0), x.day(77, 60, 0));
            due.is("day(77, 60, 1)", x.day(77, 60, 1), x.day(77, 60, 1));
        });
    }

    /** The lively town, with nothing KEPT yet, KEPT so often. */
    private static ChurnTalk kept(int times) {
        ChurnTalk x = Due.laid(Towns.FIVE);
        x.sit(0, 1);
        x.pass(1);
        for (int k = 0; k < times; k++) {
            x.keep();
        }
        return x;
    }

    private static void keep() {
        Bounds b = BOUNDS;
        b.is(26, "the first", () -> kept(0), x -> x.keep(), 1);
        b.is(26, "the second, the last there is room for", () -> kept(1), x -> x.keep(), 2);
        b.refuses(26, "a third", () -> kept(2), x -> x.keep(), FULL);
        b.refuses(26, "a fourth", () -> kept(3), x -> x.keep(), FULL);
        b.is(26, "room again behind back", () -> {
            ChurnTalk x = kept(2);
            x.back();
            return x;
        }, x -> x.keep(), 2);
        b.is(26, "room again behind back twice", () -> {
            ChurnTalk x = kept(2);
            x.back();
            x.back();
            return x;
        }, x -> x.keep(), 1);
        b.is(26, "room again behind lay", () -> {
            ChurnTalk x = kept(2);
            x.lay();
            return x;
        }, x -> x.keep(), 1);
        b.run(26, "but KEPT nothing changes", due -> {
            ChurnTalk x = kept(0);
            x.keep();
            due.same("what stands", Trace.ofNow(x), Trace.ofNow(kept(0)));
            due.is("what can be UNDONE", x.count(7), 2);
            due.is("undo()", x.undo(), 1);
            due.is("KEPT behind undo", x.count(8), 1);
        });
        b.run(26, "a refused one takes no other's place", due -> {
            ChurnTalk x = kept(2);
            x.pass(60);
            due.is("keep()", x.keep(), FULL);
            x.back();
            due.is("MINUTES", x.count(3), 1);
        });
    }

    private static void back() {
        Bounds b = BOUNDS;
        b.refuses(27, "nothing KEPT yet", ChurnTalk::new, x -> x.back(), NO);
        b.refuses(27, "nothing KEPT, but acts to be UNDONE: these stay", () -> kept(0), x -> x.back(), NO);
        b.refuses(27, "nothing is KEPT any more", () -> {
            ChurnTalk x = kept(2);
            x.back();
            x.back();
            x.pass(1);
            return x;
        }, x -> x.back(), NO);
        b.refuses(27, "nothing KEPT behind lay", () -> {
            ChurnTalk x = kept(2);
            x.lay();
            return x;
        }, x -> x.back(), NO);
        b.is(27, "the one there is: none left", () -> kept(1), x -> x.back(), 0);
        b.is(27, "of two: one left", () -> kept(2), x -> x.back(), 1);
        b.is(27, "of two, a third refused: one left", () -> kept(3), x -> x.back(), 1);
        b.run(27, "nothing is UNDONE then, not what was done ahead of keep either", due -> {
            ChurnTalk x = kept(1);
            x.pass(5);
            x.back();
            due.is("count(7)", x.count(7), 0);
            due.is("undo()", x.undo(), NO);
        });
        b.run(27, "what is done behind it can be UNDONE", due -> {
            ChurnTalk x = kept(1);
            x.back();
            x.pass(5);
            due.is("undo()", x.undo(), 0);
            due.is("MINUTES", x.count(3), 1);
        });
        b.run(27, "THE TEXT stays as it is now", due -> {
            ChurnTalk x = kept(1);
            x.write('x');
            x.back();
            due.is("letters", x.count(9), Towns.FIVE.length() + 1);
            due.is("fault()", x.fault(), Towns.FIVE.length());
            x.wipe();
            x.keep();
            x.write('p');
            x.back();
            due.is("letters, KEPT while there were none", x.count(9), 1);
        });
    }

    private static void backIsAsKept() {
        BOUNDS.run(27, "all is as KEPT: a TALE being told, BUTTER, MINUTES, HUSHED", due -> {
            ChurnTalk x = kept(1);
            x.hush(1);
            x.pass(60);
            x.stand();
            x.hush(0);
            x.sit(1, 2);
            x.pass(60);
            x.back();
            due.same("what stands", Trace.ofNow(x), Trace.ofNow(kept(0)));
        });
        BOUNDS.run(27, "all is as KEPT: nobody sitting", due -> {
            ChurnTalk x = Due.laid(Towns.FIVE);
            x.keep();
            x.sit(0, 1);
            x.pass(60);
            due.is("back()", x.back(), 0);
            due.same("all", Trace.of(x), Trace.of(Due.laid(Towns.FIVE)));
        });
        BOUNDS.run(27, "as KEPT last, then as KEPT ahead of it", due -> {
            ChurnTalk x = kept(1);
            x.pass(10);
            x.keep();
            x.pass(20);
            due.is("back()", x.back(), 1);
            due.is("MINUTES", x.count(3), 11);
            due.is("back()", x.back(), 0);
            due.is("MINUTES", x.count(3), 1);
            due.is("back()", x.back(), NO);
            due.is("MINUTES", x.count(3), 1);
        });
        BOUNDS.run(27, "KEPT, UNDONE, and back", due -> {
            ChurnTalk x = kept(1);
            x.undo();
            x.undo();
            due.is("back()", x.back(), 0);
            due.same("what stands", Trace.ofNow(x), Trace.ofNow(kept(0)));
        });
    }

    private static void countNumbers() {
        Bounds b = BOUNDS;
        b.ends(28, "count(what)", Towns::lively, (x, what) -> x.count(what), 0, 5, 9, Towns.FIVE.length());
        b.ends(28, "count(what) at first", ChurnTalk::new, (x, what) -> x.count(what), 0, 6, 9, 0);
        int[] lively = {5, 3, 4, 2, 5, 1, 5, 4, 1, 65};
        for (int what = 1; what <= 8; what++) {
            int asked = what;
            b.asks(28, "count(" + what + "), in the midst of things", Towns::lively, x -> x.count(asked), lively[what]);
        }
    }

    private static void countLeast() {
        Bounds b = BOUNDS;
        Bounds.Way one = Towns.laid("p0;");
        int[] least = {1, 0, 0, 0, 0, 0, 0, 0, 0, 3};
        String[] names = {"PERSON", "TALES", "pairs of FRIENDS", "MINUTES", "BUTTER", "TALES HUSHED",
            "TALES KNOWN", "UNDONE", "KEPT", "letters"};
        for (int what = 0; what <= 9; what++) {
            int asked = what;
            b.asks(28, "the fewest: " + least[what] + " " + names[what], one, x -> x.count(asked), least[what]);
        }
    }

    private static void countMost() {
        Bounds b = BOUNDS;
        String pairs = "f0,1;f0,2;f0,3;f0,4;f0,5;f1,2;f1,3;f1,4;f1,5;f2,3;f2,4;f2,5;f3,4;f3,5;f4,5;";
        String six = "p0;p0;p0;p0;p0;p0;";
        b.asks(28, "the most: six PERSONS", Towns.laid(six), x -> x.count(0), 6);
        b.asks(28, "the most: nine TALES", Towns.laid(Towns.NINE), x -> x.count(1), 9);
        b.asks(28, "the most: 15 pairs of FRIENDS", Towns.laid(six + pairs), x -> x.count(2), 15);
        b.asks(28, "pairs told once more, in either order, are one", Towns.laid("p0;p0;f0,1;f1,0;f0,1;"),
                x -> x.count(2), 1);
        b.asks(28, "the most: nine HUSHED", () -> {
            ChurnTalk x = Due.laid(Towns.NINE);
            for (int t = 0; t < 9; t++) {
                x.hush(t);
            }
            return x;
        }, x -> x.count(5), 9);
        b.asks(28, "the most: nine TALES, each KNOWN by five", Towns.laid(six + "t0,1,1,12345;".repeat(9)),
                x -> x.count(6), 45);
        b.asks(28, "the most: eight can be UNDONE", () -> {
            ChurnTalk x = Due.laid(TWO_YOUNG);
            for (int k = 0; k < 9; k++) {
                x.pass(1);
            }
            return x;
        }, x -> x.count(7), 8);
        b.asks(28, "the most: two KEPT", () -> kept(3), x -> x.count(8), 2);
        b.asks(28, "the most: 200 letters", Towns.written("~".repeat(201)), x -> x.count(9), 200);
        b.run(28, "the last of 512 calls: MINUTES", due -> {
            ChurnTalk x = new ChurnTalk();
            for (int call = 1; call <= 511; call++) {
                x.pass(60);
            }
            due.is("count(3)", x.count(3), 511 * 60);
        });
        b.run(28, "the last of 512 calls: BUTTER", due -> {
            // 11 letters behind a wipe, lay and sit are 14 calls.
            ChurnTalk x = sat(TWO_YOUNG);
            for (int call = 15; call <= 511; call++) {
                x.pass(60);
            }
            due.is("count(4)", x.count(4), 497 * 600);
        });
    }
}
