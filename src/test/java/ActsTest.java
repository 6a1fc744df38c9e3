/** Promises 9 to 13: two sit down, stand up, minutes go by, tales are hushed, acts are undone. */
public final class ActsTest {
    // 0 PLAIN, 1 PARSON, 2 YOUNG, 3 YOUNG, 4 WIDOW; friends 0-1, 2-3, 1-2, 0-4; tale 0 of 2
    // (ill 5, 2 minutes; known by 0, 1), 1 of 3 (7, 3; 1), 2 of 0 (20, 9; 1, 4).
    private static final String TOWN =
            "p0;p2;p3;p3;p1;f0,1;f2,3;f1,2;f0,4;t2,5,2,01;t3,7,3,1;t0,20,9,14;";
    private static final Due DUE = new Due();
    private static final int BAD = -1, NO = -2, NONE = -4;

    public static void main(String[] args) {
        sit();
        sitBad();
        stand();
        passByTurns();
        passWithTheOtherBeginning();
        passInSilence();
        passAlone();
        hush();
        hushWhileTelling();
        undoEachAct();
        undoEight();
        undoNothing();
        DUE.end();
    }

    private static void sit() {
        ChurnTalk x = Due.laid(TOWN);
        DUE.is("sit(0, 1): what 0 can tell 1", x.sit(0, 1), 0b001);
        DUE.is("sit(2, 3), 0 and 1 sitting", x.sit(2, 3), NO);
        DUE.is("sit(0, 1) again", x.sit(0, 1), NO);
        x.stand();
        DUE.is("sit(1, 0): not that of 0", x.sit(1, 0), 0b011);
        x.stand();
        DUE.is("sit(1, 2): not that of 2", x.sit(1, 2), 0b110);
        x.stand();
        DUE.is("sit(4, 0): a WIDOW", x.sit(4, 0), 0);
        x.stand();
        DUE.is("sit(0, 4)", x.sit(0, 4), 0b001);
        x.pass(2);
        x.stand();
        DUE.is("sit(0, 4): told ahead, of this sitting nothing", x.sit(0, 4), 0b001);
        x.stand();
        x.hush(0);
        DUE.is("sit(0, 4), hushed", x.sit(0, 4), 0);
        DUE.is("sit is an act", x.count(7), 8);
    }

    private static void sitBad() {
        ChurnTalk x = Due.laid(TOWN);
        int[][] bad = {{0, 0}, {-1, 0}, {0, -1}, {5, 0}, {0, 5}, {Integer.MAX_VALUE, Integer.MIN_VALUE}};
        for (int[] two : bad) {
            DUE.is("sit(" + two[0] + ", " + two[1] + ")", x.sit(two[0], two[1]), BAD);
        }
        DUE.is("sit(0, 2): no FRIENDS", x.sit(0, 2), NO);
        DUE.is("nobody sits", x.churn(0), NONE);
        DUE.is("nothing to undo", x.count(7), 0);
        x.sit(0, 1);
        DUE.is("sit(0, 0), somebody sitting", x.sit(0, 0), BAD);
    }

    private static void stand() {
        ChurnTalk x = Due.laid(TOWN);
        DUE.is("stand(), nobody", x.stand(), NO);
        x.sit(0, 1);
        DUE.is("stand() at once", x.stand(), 0);
        x.sit(0, 1);
        x.pass(1);
        DUE.is("stand() within a tale: it was not TOLD", x.stand(), 0);
        DUE.is("nobody sits", x.churn(0), NONE);
        DUE.is("the butter stays", x.count(4), 5);
        DUE.is("tale 0 can be hushed then", x.hush(0), 2);
        x.undo();
        x.sit(0, 1);
        x.pass(1);
        DUE.is("the tale begins anew", x.churn(4), 1);
        x.pass(4);
        DUE.is("stand(), two TOLD", x.stand(), 2);
        DUE.is("what was heard stays known", x.person(0, 2), 0b011);
    }

    // 0 tells tale 0 (5, 5), 1 tells tale 1 by half of 7, cut (3, 3, 3), then silence.
    private static void passByTurns() {
        int[] butter = {5, 10, 13, 16, 19, 19, 19};
        ChurnTalk x = Due.laid(TOWN);
        x.sit(0, 1);
        for (int k = 0; k < butter.length; k++) {
            DUE.is("0 and 1, minute " + k, x.pass(1), butter[k]);
        }
        for (int n = 1; n <= butter.length; n++) {
            ChurnTalk y = Due.laid(TOWN);
            y.sit(0, 1);
            DUE.is("0 and 1, pass(" + n + ")", y.pass(n), butter[n - 1]);
            DUE.is("0 and 1, count(3)", y.count(3), n);
        }
        DUE.is("pass(0)", x.pass(0), BAD);
        DUE.is("pass(61)", x.pass(61), BAD);
        DUE.is("pass(-1)", x.pass(-1), BAD);
        DUE.is("BAD: no minute", x.count(3), 7);
        DUE.is("pass(60)", x.pass(60), 19);
        DUE.is("60 minutes", x.count(3), 67);
    }

    // 1 tells tale 0 (2, 2), 0 has none, so 1 begins tale 1 (3, 3, 3) and is to tell then.
    private static void passWithTheOtherBeginning() {
        int[] butter = {2, 4, 7, 10, 13, 13};
        int[] teller = {1, 0, 1, 1, 0, 0};
        ChurnTalk x = Due.laid(TOWN);
        x.sit(1, 0);
        for (int k = 0; k < butter.length; k++) {
            DUE.is("1 and 0, minute " + k, x.pass(1), butter[k]);
            DUE.is("1 and 0, to tell at " + k, x.churn(2), teller[k]);
        }
        x.stand();
        x.sit(2, 1);
        DUE.is("2 has none, 1 begins", x.pass(1), 16);
        DUE.is("1 is to tell then", x.churn(2), 1);
        DUE.is("the lowest one of 1", x.churn(3), 1);
        DUE.is("still 2 minutes", x.churn(4), 2);
    }

    private static void passInSilence() {
        ChurnTalk x = Due.laid(TOWN);
        x.sit(2, 3);
        DUE.is("both YOUNG, a minute", x.pass(1), 10);
        DUE.is("both YOUNG, 60 minutes", x.pass(60), 610);
        ChurnTalk y = Due.laid("p3;p0;p3;f0,1;f0,2;t1,20,1,0;");
        y.sit(0, 1);
        DUE.is("one YOUNG", y.pass(9), 0);
        y.stand();
        y.sit(1, 0);
        DUE.is("the other one YOUNG", y.pass(9), 0);
        y.stand();
        y.sit(2, 0);
        DUE.is("both YOUNG: 20, then 10 a minute", y.pass(3), 40);
    }

    private static void passAlone() {
        ChurnTalk x = Due.laid(TOWN);
        DUE.is("nobody sits", x.pass(60), 0);
        DUE.is("minutes go by", x.count(3), 60);
        DUE.is("nobody sits, an act", x.undo(), 0);
        DUE.is("it is undone", x.count(3), 0);
    }

    private static void hush() {
        ChurnTalk x = Due.laid(TOWN);
        DUE.is("hush(-1)", x.hush(-1), BAD);
        DUE.is("hush(3)", x.hush(3), BAD);
        DUE.is("hush(1)", x.hush(1), 2);
        DUE.is("hush(1) again", x.hush(1), NO);
        DUE.is("hush(0)", x.hush(0), 1);
        DUE.is("hush(2)", x.hush(2), 0);
        DUE.is("count(5)", x.count(5), 3);
        x.sit(0, 1);
        DUE.is("nobody tells one any more", x.pass(5), 0);
        DUE.is("they still know it", x.person(1, 2), 0b111);
    }

    private static void hushWhileTelling() {
        ChurnTalk x = Due.laid(TOWN);
        x.sit(0, 1);
        x.pass(1);
        DUE.is("hush(0), being told", x.hush(0), NO);
        DUE.is("hush(1), not told now", x.hush(1), 2);
        x.pass(1);
        DUE.is("hush(0), TOLD", x.hush(0), 1);
        DUE.is("silence then", x.pass(9), 10);
    }

    private static void undoEachAct() {
        ChurnTalk x = Due.laid(TOWN);
        x.sit(0, 1);
        x.pass(1);
        x.pass(4);
        x.hush(2);
        x.stand();
        DUE.is("undo() of stand", x.undo(), 4);
        DUE.is("they sit again", x.churn(5), 0b011);
        DUE.is("undo() of hush", x.undo(), 3);
        DUE.is("not hushed", x.tale(2, 3), 0);
        DUE.is("undo() of 4 minutes, one act", x.undo(), 2);
        DUE.is("the tale is being told again", x.churn(3), 0);
        DUE.is("its minutes to go", x.churn(4), 1);
        DUE.is("the butter then", x.count(4), 5);
        DUE.is("the minutes then", x.count(3), 1);
        DUE.is("0 does not know it then", x.person(0, 2), 0b001);
        DUE.is("undo() of a minute", x.undo(), 1);
        DUE.is("none is being told", x.churn(3), NONE);
        DUE.is("undo() of sit", x.undo(), 0);
        DUE.is("nobody sits", x.churn(0), NONE);
        DUE.is("undo(), nothing left", x.undo(), NO);
    }

    private static void undoEight() {
        ChurnTalk x = Due.laid(TOWN);
        for (int k = 1; k <= 11; k++) {
            x.pass(k);
            DUE.is("count(7) behind " + k, x.count(7), Math.min(k, 8));
        }
        int minutes = 66;
        for (int k = 11; k > 3; k--) {
            DUE.is("undo() of pass(" + k + ")", x.undo(), k - 4);
            minutes -= k;
            DUE.is("minutes without it", x.count(3), minutes);
        }
        DUE.is("the ninth", x.undo(), NO);
        DUE.is("6 minutes stay", x.count(3), 6);
        x.pass(1);
        DUE.is("a new act can be undone", x.undo(), 0);
    }

    private static void undoNothing() {
        ChurnTalk x = Due.laid(TOWN);
        DUE.is("undo() of a new town", x.undo(), NO);
        x.write('p');
        x.keep();
        x.day(1, 9, 0);
        x.comes(5);
        x.stand();
        x.sit(0, 3);
        x.pass(61);
        x.hush(9);
        DUE.is("no act yet", x.count(7), 0);
        x.sit(0, 1);
        x.write('0');
        DUE.is("the text is not undone", x.undo(), 0);
        DUE.is("letters stay", x.count(9), TOWN.length() + 2);
    }
}
