/** Promises 24 to 28: tales held back by chance, days by draws, towns kept, counts. */
public final class HeldDaysTest {
    // As in ActsTest: 0-1 bring 5, 5 by tale 0, then 3, 3, 3 by tale 1.
    private static final String TOWN =
            "p0;p2;p3;p3;p1;f0,1;f2,3;f1,2;f0,4;t2,5,2,01;t3,7,3,1;t0,20,9,14;";
    private static final Due DUE = new Due();
    private static final int BAD = -1, NO = -2, FULL = -3, NONE = -4;

    public static void main(String[] args) {
        held();
        heldOfMany();
        heldBad();
        dayOfSilence();
        dayByDraws();
        dayStandsAndHushes();
        dayOfDocument();
        dayBad();
        keep();
        back();
        count();
        DUE.end();
    }

    private static void heldIs(ChurnTalk x, int a, int b, int n, int h, int tenths, int above, int below) {
        String call = "held(" + a + ", " + b + ", " + n + ", " + h + ", " + tenths;
        DUE.is(call + ", 0)", x.held(a, b, n, h, tenths, 0), above);
        DUE.is(call + ", 1)", x.held(a, b, n, h, tenths, 1), below);
    }

    private static void held() {
        ChurnTalk x = Due.laid(TOWN);
        heldIs(x, 0, 1, 60, 0, 3, 1, 1);
        heldIs(x, 0, 1, 60, 9, 3, 91, 100);
        heldIs(x, 0, 1, 60, 10, 3, 7, 10);
        heldIs(x, 0, 1, 60, 11, 3, 49, 100);
        heldIs(x, 0, 1, 60, 19, 3, 49, 100);
        heldIs(x, 0, 1, 60, 20, 3, 0, 1);
        heldIs(x, 0, 1, 60, 10, 5, 1, 2);
        heldIs(x, 0, 1, 60, 9, 4, 21, 25);
        heldIs(x, 0, 1, 60, 19, 0, 1, 1);
        heldIs(x, 0, 1, 60, 1, 10, 0, 1);
        heldIs(x, 0, 1, 1, 5, 3, 7, 10);
        heldIs(x, 0, 1, 1, 3, 3, 91, 100);
        heldIs(x, 1, 0, 1, 3, 3, 21, 100);
        heldIs(x, 1, 0, 1, 2, 3, 91, 100);
        heldIs(x, 2, 3, 60, 600, 10, 1, 1);
        heldIs(x, 2, 3, 60, 601, 10, 0, 1);
        x.hush(0);
        heldIs(x, 0, 1, 60, 9, 3, 7, 10);
        x.sit(0, 1);
        x.pass(2);
        heldIs(x, 0, 1, 60, 9, 3, 7, 10);
        heldIs(x, 1, 0, 60, 9, 3, 7, 10);
        DUE.is("nothing changes", x.count(4), 6);
    }

    private static void heldOfMany() {
        ChurnTalk x = Due.laid("p0;p0;p0;f0,1;" + "t2,1,1,0;".repeat(9));
        // Nine tales of 1, each told by 7 or 9 of ten.
        heldIs(x, 0, 1, 60, 9, 3, 40353607, 1000000000);
        heldIs(x, 0, 1, 60, 9, 1, 387420489, 1000000000);
        heldIs(x, 0, 1, 60, 1, 1, 999999999, 1000000000);
        heldIs(x, 0, 1, 60, 1, 5, 511, 512);
        heldIs(x, 0, 1, 60, 5, 5, 1, 2);
        heldIs(x, 0, 1, 4, 4, 5, 191, 256);
    }

    private static void heldBad() {
        ChurnTalk x = Due.laid(TOWN);
        int[][] bad = {{0, 0, 1, 0, 0, 0}, {-1, 0, 1, 0, 0, 0}, {0, 5, 1, 0, 0, 0}, {0, 1, 0, 0, 0, 0},
            {0, 1, 61, 0, 0, 0}, {0, 1, 1, -1, 0, 0}, {0, 1, 1, 1000, 0, 0}, {0, 1, 1, 0, -1, 0},
            {0, 1, 1, 0, 11, 0}, {0, 1, 1, 0, 0, -1}, {0, 1, 1, 0, 0, 2}, {0, 2, 1, 0, 11, 0}};
        for (int[] c : bad) {
            DUE.is("held BAD", x.held(c[0], c[1], c[2], c[3], c[4], c[5]), BAD);
        }
        DUE.is("held: no FRIENDS", x.held(0, 2, 1, 0, 0, 0), NO);
        DUE.is("held: no FRIENDS", x.held(0, 2, 1, 0, 0, 1), NO);
        DUE.is("held: h 999", x.held(0, 1, 1, 999, 0, 0), 0);
    }

    // z = 0: the DRAWS of k = 0, 1, 2, 3 are 1, 41487, 10299, 37479. By 8 and by 64, cut: 0 and 0;
    // 5185 and 648; then modulo 8: 3; 7. Of two, 1 and 0 sit from k = 1 on.
    private static void dayOfSilence() {
        ChurnTalk x = Due.laid("p3;p3;f0,1;");
        DUE.is("day(0, 1, 0)", x.day(0, 1, 0), 0);
        DUE.is("day(0, 2, 0)", x.day(0, 2, 0), 10);
        DUE.is("day(0, 3, 0)", x.day(0, 3, 0), 20);
        DUE.is("day(0, 4, 0)", x.day(0, 4, 0), 30);
        DUE.is("day(0, 4, 1)", x.day(0, 4, 1), 0);
        DUE.is("nothing changes: minutes", x.count(3), 0);
        DUE.is("nothing changes: nobody", x.churn(0), NONE);
        DUE.is("nothing changes: undo", x.undo(), NO);
        ChurnTalk strangers = Due.laid("p3;p3;");
        DUE.is("no FRIENDS cannot sit", strangers.day(0, 60, 0), 0);
        DUE.is("one alone", Due.laid("p3;").day(9999, 60, 0), 0);
    }

    private static void dayByDraws() {
        // 1 is the first one: it tells 0 its tale at k = 1 (ill 4), 0 tells 1 at k = 2 (ill 9).
        ChurnTalk x = Due.laid("p0;p0;p0;f0,1;t2,9,1,0;t2,4,1,1;");
        // Of three, 5185 modulo 3 = 1, 648 modulo 3 = 0.
        DUE.is("day(0, 2, 0) of three", x.day(0, 2, 0), 4);
        DUE.is("day(0, 2, 1) of three", x.day(0, 2, 1), 3);
        DUE.is("day(0, 3, 0) of three", x.day(0, 3, 0), 13);
        DUE.is("day(0, 3, 1) of three", x.day(0, 3, 1), 4);
        x.sit(0, 1);
        x.pass(1);
        // DRAW 1: tale 0, TOLD, is hushed; then 1 tells its own.
        DUE.is("from now on, while two sit", x.day(0, 1, 0), 13);
        x.stand();
        DUE.is("from now on, standing", x.day(0, 1, 0), 9);
    }

    // The first DRAW is by z = 0: 1 (modulo 8: 1; by 8: 0), z = 1: 22803 (3), z = 5: 56728 (0),
    // z = 7: 58977 (1; 7372).
    private static void dayStandsAndHushes() {
        ChurnTalk two = Due.laid("p0;p0;p0;f0,1;t2,9,2,0;t2,5,2,1;");
        two.sit(0, 1);
        DUE.is("tale 0 hushed: the other one begins", two.day(0, 1, 0), 5);
        DUE.is("tale 7372 modulo 2, 0, hushed", two.day(7, 1, 0), 5);
        DUE.is("modulo 8 is 3: nothing", two.day(1, 1, 0), 9);
        DUE.is("they stand up ahead of the minute", two.day(5, 1, 0), 0);
        two.pass(1);
        DUE.is("tale 0 being told cannot be hushed", two.day(0, 1, 0), 18);
        DUE.is("nothing is hushed by a day", two.count(5), 0);
        ChurnTalk one = Due.laid("p0;p0;p0;f0,1;t2,9,2,0;");
        one.sit(0, 1);
        DUE.is("the one TALE is hushed", one.day(0, 1, 0), 0);
        ChurnTalk none = Due.laid("p3;p3;f0,1;");
        none.sit(0, 1);
        DUE.is("no TALE to hush", none.day(0, 1, 0), 10);
    }

    private static void dayOfDocument() {
        for (int z = 0; z <= 9999; z += 271) {
            ChurnTalk x = Due.laid("p3;p3;p0;f0,1;t2,1,2,0;t2,2,3,1;t2,3,1,0;");
            x.sit(1, 0);
            PlainChurn plain = new PlainChurn();
            plain.layText("p3;p3;p0;f0,1;t2,1,2,0;t2,2,3,1;t2,3,1,0;");
            plain.sit(1, 0);
            for (int n = 1; n <= 60; n += 7) {
                for (int what = 0; what < 2; what++) {
                    DUE.is("day(" + z + ", " + n + ", " + what + ")", x.day(z, n, what), plain.day(z, n, what));
                }
            }
        }
    }

    private static void dayBad() {
        ChurnTalk x = new ChurnTalk();
        int[][] bad = {{-1, 1, 0}, {10000, 1, 0}, {0, 0, 0}, {0, 61, 0}, {0, 1, -1}, {0, 1, 2}};
        for (int[] c : bad) {
            DUE.is("day BAD", x.day(c[0], c[1], c[2]), BAD);
        }
    }

    private static void keep() {
        ChurnTalk x = Due.laid(TOWN);
        DUE.is("back(), nothing KEPT", x.back(), NO);
        DUE.is("keep()", x.keep(), 1);
        x.sit(0, 1);
        DUE.is("keep() again", x.keep(), 2);
        DUE.is("keep(), a third", x.keep(), FULL);
        DUE.is("count(8)", x.count(8), 2);
        DUE.is("keep is no act", x.count(7), 1);
        DUE.is("undo() behind keep", x.undo(), 0);
        DUE.is("KEPT stays behind undo", x.count(8), 2);
        DUE.is("back()", x.back(), 1);
        DUE.is("they sit", x.churn(0), 0);
        DUE.is("keep() has room", x.keep(), 2);
        x.lay();
        DUE.is("nothing KEPT behind lay", x.count(8), 0);
    }

    private static void back() {
        ChurnTalk x = Due.laid(TOWN);
        x.sit(0, 1);
        x.pass(1);
        x.hush(1);
        x.keep();
        x.pass(9);
        x.stand();
        x.hush(0);
        x.keep();
        x.sit(1, 2);
        x.pass(2);
        Due.rewrite(x, "p0;");
        DUE.is("back() to the latest", x.back(), 1);
        DUE.is("nobody sits", x.churn(0), NONE);
        DUE.is("0 is hushed", x.tale(0, 3), 1);
        DUE.is("minutes", x.count(3), 10);
        DUE.is("butter", x.count(4), 10);
        DUE.is("the text stays", x.count(9), 3);
        DUE.is("nothing can be undone", x.count(7), 0);
        DUE.is("undo()", x.undo(), NO);
        x.pass(1);
        DUE.is("back() to the first", x.back(), 0);
        DUE.is("they sit", x.churn(1), 1);
        DUE.is("a tale is told", x.churn(3), 0);
        DUE.is("its minutes", x.churn(4), 1);
        DUE.is("0 not hushed", x.tale(0, 3), 0);
        DUE.is("1 hushed", x.tale(1, 3), 1);
        DUE.is("butter then", x.count(4), 5);
        DUE.is("1 minute gone", x.count(3), 1);
        DUE.is("undo() again", x.undo(), NO);
        DUE.is("back(), nothing left", x.back(), NO);
        x.pass(1);
        DUE.is("a new act", x.undo(), 0);
    }

    private static void count() {
        ChurnTalk x = Due.laid(TOWN);
        x.sit(0, 1);
        x.pass(2);
        x.pass(4);
        x.hush(0);
        x.keep();
        int[] counts = {5, 3, 4, 6, 19, 1, 6, 4, 1, TOWN.length()};
        for (int what = 0; what < counts.length; what++) {
            DUE.is("count(" + what + ")", x.count(what), counts[what]);
        }
        DUE.is("count(-1)", x.count(-1), BAD);
        DUE.is("count(10)", x.count(10), BAD);
    }
}
