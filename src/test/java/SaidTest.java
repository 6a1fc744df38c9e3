/** Promises 22 and 23: which tales were said, who sat there. */
public final class SaidTest {
    private static final Due DUE = new Due();
    private static final int BAD = -1, NONE = -4;

    public static void main(String[] args) {
        said();
        saidByWhom();
        saidOfAll();
        saidBad();
        who();
        whoOfSeveral();
        whoBad();
        DUE.end();
    }

    private static void saidIs(ChurnTalk x, int a, int b, int y, int sets, int lowest) {
        String call = "said(" + a + ", " + b + ", " + y;
        DUE.is(call + ", 0)", x.said(a, b, y, 0), sets);
        DUE.is(call + ", 1)", x.said(a, b, y, 1), lowest);
    }

    private static void said() {
        // 0 can tell 1 tales of ill 3, 3, 6, 1; tale 3 is of 1, tale 5 is not known by 0.
        ChurnTalk x = Due.laid("p0;p0;p0;t2,3,1,0;t2,3,1,0;t2,6,9,01;t1,6,1,0;t2,1,1,0;t2,6,1,1;");
        saidIs(x, 0, 1, 0, 1, 0);
        saidIs(x, 0, 1, 1, 1, 0b010000);
        saidIs(x, 0, 1, 2, 0, NONE);
        saidIs(x, 0, 1, 3, 2, 0b000001);
        saidIs(x, 0, 1, 6, 2, 0b000011);
        saidIs(x, 0, 1, 9, 2, 0b000101);
        saidIs(x, 0, 1, 13, 1, 0b010111);
        saidIs(x, 0, 1, 14, 0, NONE);
        saidIs(x, 0, 1, 180, 0, NONE);
        saidIs(x, 1, 0, 6, 2, 0b000100);
        x.hush(0);
        saidIs(x, 0, 1, 6, 1, 0b000100);
        saidIs(x, 0, 1, 3, 1, 0b000010);
    }

    private static void saidByWhom() {
        ChurnTalk x = Due.laid("p2;p1;p0;f0,1;t2,7,1,01;t2,4,1,0;t0,5,1,1;");
        saidIs(x, 0, 1, 7, 1, 0b001);
        saidIs(x, 0, 1, 11, 1, 0b011);
        saidIs(x, 1, 0, 7, 0, NONE);
        saidIs(x, 1, 0, 0, 1, 0);
        saidIs(x, 0, 2, 7, 0, NONE);
        x.sit(0, 1);
        x.pass(1);
        DUE.is("told now", x.churn(5), 0b001);
        saidIs(x, 0, 1, 7, 1, 0b001);
        x.pass(1);
        saidIs(x, 1, 2, 4, 0, NONE);
        ChurnTalk heard = Due.laid("p0;p0;p0;f0,1;t2,4,1,0;");
        saidIs(heard, 1, 0, 4, 0, NONE);
        heard.sit(0, 1);
        heard.pass(1);
        saidIs(heard, 1, 0, 4, 1, 0b1);
    }

    private static void saidOfAll() {
        ChurnTalk x = Due.laid("p0;p0;p0;" + "t2,20,1,0;".repeat(9));
        saidIs(x, 0, 1, 180, 1, 0b111111111);
        saidIs(x, 0, 1, 80, 126, 0b1111);
        saidIs(x, 0, 1, 160, 9, 0b11111111);
        ChurnTalk none = Due.laid("p0;p0;");
        saidIs(none, 0, 1, 0, 1, 0);
        saidIs(none, 0, 1, 1, 0, NONE);
    }

    private static void saidBad() {
        ChurnTalk x = Due.laid("p0;p0;p0;t2,3,1,0;");
        int[][] bad = {{0, 0, 3, 0}, {-1, 0, 3, 0}, {0, 3, 3, 0}, {3, 0, 3, 0}, {0, -1, 3, 0},
            {0, 1, -1, 0}, {0, 1, 181, 0}, {0, 1, 3, -1}, {0, 1, 3, 2}};
        for (int[] c : bad) {
            DUE.is("said BAD", x.said(c[0], c[1], c[2], c[3]), BAD);
        }
    }

    private static void whoIs(ChurnTalk x, int n, int y, int twos, int first) {
        DUE.is("who(" + n + ", " + y + ", 0)", x.who(n, y, 0), twos);
        DUE.is("who(" + n + ", " + y + ", 1)", x.who(n, y, 1), first);
    }

    private static void who() {
        // In a minute: 01 5, 10 2, 04 5, 40 5, 12 3, 21 3, 23 10, 32 10.
        ChurnTalk x = Due.laid("p0;p2;p3;p3;p1;f0,1;f2,3;f1,2;f0,4;t2,5,2,01;t3,7,3,1;t0,20,9,14;");
        whoIs(x, 1, 5, 3, 1);
        whoIs(x, 1, 2, 1, 10);
        whoIs(x, 1, 3, 2, 12);
        whoIs(x, 1, 10, 2, 23);
        whoIs(x, 1, 0, 0, NONE);
        whoIs(x, 1, 999, 0, NONE);
        whoIs(x, 60, 600, 2, 23);
        whoIs(x, 60, 13, 1, 10);
        whoIs(x, 60, 10, 2, 4);
        x.hush(0);
        whoIs(x, 1, 0, 2, 4);
        x.sit(0, 1);
        whoIs(x, 1, 3, 4, 1);
    }

    private static void whoOfSeveral() {
        ChurnTalk x = Due.laid("p0;p0;p0;f1,2;");
        whoIs(x, 60, 0, 2, 12);
        whoIs(Due.laid("p0;p0;p0;"), 60, 0, 0, NONE);
        // 111 a minute are not possible; 999 are: 20 for 49 minutes and 19 for one.
        ChurnTalk most = Due.laid("p0;p0;p0;f1,0;t2,20,9,0;t2,20,9,0;t2,20,9,0;t2,20,9,0;t2,20,9,0;"
                + "t2,20,4,0;t2,19,1,0;");
        whoIs(most, 50, 999, 2, 1);
        whoIs(most, 60, 999, 2, 1);
        whoIs(most, 49, 980, 2, 1);
    }

    private static void whoBad() {
        ChurnTalk x = new ChurnTalk();
        int[][] bad = {{0, 1, 0}, {61, 1, 0}, {1, -1, 0}, {1, 1000, 0}, {1, 1, -1}, {1, 1, 2}};
        for (int[] c : bad) {
            DUE.is("who BAD", x.who(c[0], c[1], c[2]), BAD);
        }
    }
}
