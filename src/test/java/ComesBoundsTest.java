/** Boundary cases of promises 14 to 17 and 20: what comes, silence, what two bring, who hears. */
public final class ComesBoundsTest {
    private static final int BAD = Bounds.BAD, NO = Bounds.NO, NONE = Bounds.NONE;
    private static final Bounds BOUNDS = new Bounds();

    private static final String TWO_YOUNG = "p3;p3;f0,1;";

    public static void main(String[] args) {
        comesNumbers();
        comesFirst();
        comesAt120();
        quietRefused();
        quietAnswers();
        bringsNumbers();
        bringsRefused();
        bringsAnswers();
        bringsByNow();
        bestNumbers();
        bestAnswers();
        hearsNumbers();
        hearsAnswers();
        hearsNone();
        BOUNDS.end(14, 15, 16, 17, 20);
    }

    /** Two YOUNG ones sit in silence: 10 BUTTER a MINUTE. */
    private static ChurnTalk young() {
        ChurnTalk x = Due.laid(TWO_YOUNG);
        x.sit(0, 1);
        return x;
    }

    /** 1 BUTTER a MINUTE for 81 MINUTES, nothing behind. */
    private static ChurnTalk nine() {
        ChurnTalk x = Due.laid(Towns.NINE);
        x.sit(0, 1);
        return x;
    }

    private static void comesNumbers() {
        Bounds b = BOUNDS;
        b.ends(14, "comes(h)", ComesBoundsTest::young, (x, h) -> x.comes(h), 0, 0, 999, 100);
        b.ends(14, "comes(h), nobody sitting", Towns::stood, (x, h) -> x.comes(h), 0, 0, 999, NONE);
        b.ends(14, "comes(h), a TALE being told", Towns::lively, (x, h) -> x.comes(h), 0, 0, 999, NONE);
        b.refuses(14, "comes(-1000)", Towns::lively, x -> x.comes(-1000), BAD);
    }

    private static void comesFirst() {
        Bounds b = BOUNDS;
        b.asks(14, "0 at once, though there is none", ChurnTalk::new, x -> x.comes(0), 0);
        b.asks(14, "1 never, nobody sitting", ChurnTalk::new, x -> x.comes(1), NONE);
        b.asks(14, "1 behind the first MINUTE", ComesBoundsTest::young, x -> x.comes(1), 1);
        b.asks(14, "just as much behind one MINUTE", ComesBoundsTest::young, x -> x.comes(10), 1);
        b.asks(14, "one more takes one MINUTE more", ComesBoundsTest::young, x -> x.comes(11), 2);
        b.asks(14, "just as much as there is", Towns::lively, x -> x.comes(5), 0);
        b.asks(14, "one more than there is", Towns::lively, x -> x.comes(6), 1);
        b.asks(14, "all that comes, behind the last MINUTE of a TALE", Towns::lively, x -> x.comes(19), 4);
        b.asks(14, "one more than all that comes", Towns::lively, x -> x.comes(20), NONE);
        b.asks(14, "just as much as there is, nobody sitting", Towns::stood, x -> x.comes(19), 0);
        b.asks(14, "one more than there is, nobody sitting", Towns::stood, x -> x.comes(20), NONE);
        b.asks(14, "999, all there, at once", () -> {
            ChurnTalk x = young();
            x.pass(60);
            x.pass(40);
            return x;
        }, x -> x.comes(999), 0);
    }

    private static void comesAt120() {
        Bounds b = BOUNDS;
        Bounds.Way slow = () -> {
            ChurnTalk x = Due.laid("p3;p3;p0;f0,1;" + "t2,1,9,0;".repeat(9));
            x.sit(0, 1);
            return x;
        };
        // 81 in 81 MINUTES, then 10 a MINUTE: 461 behind 119, 471 behind 120, 481 behind 121.
        b.asks(14, "behind 119 MINUTES", slow, x -> x.comes(461), 119);
        b.asks(14, "behind 120 MINUTES, the most: the least for it", slow, x -> x.comes(462), 120);
        b.asks(14, "behind 120 MINUTES, the most: the most by then", slow, x -> x.comes(471), 120);
        b.asks(14, "behind 121 MINUTES is NONE", slow, x -> x.comes(472), NONE);
        b.asks(14, "behind 121 MINUTES, one of them gone by", () -> {
            ChurnTalk x = slow.make();
            x.pass(1);
            return x;
        }, x -> x.comes(472), 120);
    }

    private static void quietRefused() {
        Bounds b = BOUNDS;
        b.refuses(15, "nobody has sat yet", ChurnTalk::new, x -> x.quiet(), NO);
        b.refuses(15, "they stood up", Towns::stood, x -> x.quiet(), NO);
        b.refuses(15, "nobody there, nobody sits", Towns.laid("p0;"), x -> x.quiet(), NO);
    }

    private static void quietAnswers() {
        Bounds b = BOUNDS;
        b.asks(15, "no TALES: at once", ComesBoundsTest::young, x -> x.quiet(), 0);
        b.asks(15, "no TALE that they can tell: at once", () -> {
            ChurnTalk x = Due.laid(Towns.FIVE);
            x.sit(2, 3);
            return x;
        }, x -> x.quiet(), 0);
        b.asks(15, "one TALE of one MINUTE: behind 1", () -> {
            ChurnTalk x = Due.laid("p0;p0;p0;f0,1;t2,5,1,1;");
            x.sit(0, 1);
            return x;
        }, x -> x.quiet(), 1);
        b.asks(15, "a TALE with a MINUTE to go, and three of another one", Towns::lively, x -> x.quiet(), 4);
        // A TALE is TOLD once since they SIT: nine of nine MINUTES are all, so none is never due.
        b.asks(15, "nine TALES of nine MINUTES: behind 81, the most", ComesBoundsTest::nine, x -> x.quiet(), 81);
        b.asks(15, "the last MINUTE of the last TALE is ahead", () -> {
            ChurnTalk x = nine();
            x.pass(60);
            x.pass(20);
            return x;
        }, x -> x.quiet(), 1);
        b.asks(15, "the last MINUTE of the last TALE has gone by", () -> {
            ChurnTalk x = nine();
            x.pass(60);
            x.pass(21);
            return x;
        }, x -> x.quiet(), 0);
        b.asks(15, "silence has lasted long", () -> {
            ChurnTalk x = young();
            x.pass(60);
            return x;
        }, x -> x.quiet(), 0);
        b.asks(15, "eight of nine HUSHED: behind 9", () -> {
            ChurnTalk x = nine();
            for (int t = 1; t < 9; t++) {
                x.hush(t);
            }
            return x;
        }, x -> x.quiet(), 9);
    }

    private static void bringsNumbers() {
        Bounds b = BOUNDS;
        Bounds.Way six = Towns.laid(Towns.SIX);
        Bounds.Way five = Towns.laid(Towns.FIVE);
        b.asks(16, "the first PERSON first, the last one the other", six, x -> x.brings(0, 5, 2), 3);
        b.asks(16, "the last PERSON first, the first one the other", six, x -> x.brings(5, 0, 2), 3);
        b.beyond(16, "brings(a, 5, 1)", six, (x, a) -> x.brings(a, 5, 1), 0, 5);
        b.beyond(16, "brings(0, b, 1)", six, (x, a) -> x.brings(0, a, 1), 0, 5);
        b.beyond(16, "brings(a, 0, 1) of five", Towns::lively, (x, a) -> x.brings(a, 0, 1), 0, 4);
        b.beyond(16, "brings(0, b, 1) of five", Towns::lively, (x, a) -> x.brings(0, a, 1), 0, 4);
        b.ends(16, "brings(2, 3, n)", five, (x, n) -> x.brings(2, 3, n), 1, 10, 60, 600);
        b.ends(16, "brings(0, 1, n), they sit", Towns::lively, (x, n) -> x.brings(0, 1, n), 1, 5, 60, 19);
        b.refuses(16, "brings(0, 1, -1)", five, x -> x.brings(0, 1, -1), BAD);
    }

    private static void bringsRefused() {
        Bounds b = BOUNDS;
        b.refuses(16, "alike: the first", Towns::lively, x -> x.brings(0, 0, 1), BAD);
        b.refuses(16, "alike: the last", Towns::lively, x -> x.brings(4, 4, 1), BAD);
        b.refuses(16, "alike, and none such", Towns::lively, x -> x.brings(5, 5, 1), BAD);
        b.refuses(16, "no FRIENDS", Towns::lively, x -> x.brings(0, 2, 1), NO);
        b.refuses(16, "no FRIENDS, the other way round", Towns::lively, x -> x.brings(2, 0, 1), NO);
        b.refuses(16, "no FRIENDS, and no number of MINUTES: 0", Towns::lively, x -> x.brings(0, 2, 0), BAD);
        b.refuses(16, "no FRIENDS, and no number of MINUTES: 61", Towns::lively, x -> x.brings(0, 2, 61), BAD);
        b.refuses(16, "nobody has FRIENDS", Towns.laid("p3;p3;"), x -> x.brings(0, 1, 60), NO);
    }

    private static void bringsAnswers() {
        Bounds b = BOUNDS;
        b.asks(16, "nothing to tell: 0", Towns.laid("p0;p0;f0,1;"), x -> x.brings(0, 1, 60), 0);
        b.asks(16, "the least that is not 0", Towns.laid("p2;p0;p0;f0,1;t2,2,1,0;"), x -> x.brings(0, 1, 60), 1);
        b.asks(16, "the most: 20 in each of 60 MINUTES",
                Towns.laid("p0;p0;p0;f0,1;" + "t2,20,9,0;".repeat(7)), x -> x.brings(1, 0, 60), 1200);
        b.asks(16, "a MINUTE ahead of a TALE's end", Towns.laid(Towns.FIVE), x -> x.brings(0, 1, 4), 16);
        b.asks(16, "at a TALE's end", Towns.laid(Towns.FIVE), x -> x.brings(0, 1, 5), 19);
        b.asks(16, "a MINUTE behind the last TALE's end", Towns.laid(Towns.FIVE), x -> x.brings(0, 1, 6), 19);
        b.asks(16, "the first one is to tell", Towns.laid(Towns.FIVE), x -> x.brings(1, 0, 1), 2);
    }

    private static void bringsByNow() {
        Bounds b = BOUNDS;
        b.asks(16, "whoever SITS: the same two, anew", Towns::lively, x -> x.brings(0, 1, 2), 10);
        b.asks(16, "whoever SITS: one of them", Towns::lively, x -> x.brings(1, 2, 60), 9);
        b.asks(16, "whoever SITS: two others", Towns::lively, x -> x.brings(2, 3, 60), 600);
        b.asks(16, "BUTTER that there is does not count", Towns::stood, x -> x.brings(2, 3, 1), 10);
        b.asks(16, "what is HUSHED is not told", Towns::lively, x -> x.brings(2, 1, 60), 9);
        // 0 has heard tale 1 by now: 1 tells tale 0 (2, 2), 0 tells tale 1 whole (7, 7, 7).
        b.asks(16, "by what is KNOWN now", Towns::stood, x -> x.brings(1, 0, 60), 25);
        b.asks(16, "what is being told is not KNOWN yet", Towns::lively, x -> x.brings(1, 0, 60), 13);
        b.asks(16, "what was TOLD since they SIT is told anew", () -> {
            ChurnTalk x = nine();
            x.pass(60);
            return x;
        }, x -> x.brings(0, 1, 60), 60);
    }

    private static void bestNumbers() {
        Bounds b = BOUNDS;
        Bounds.Way five = Towns.laid(Towns.FIVE);
        b.ends(17, "best(n, 1)", five, (x, n) -> x.best(n, 1), 1, 10, 60, 600);
        b.ends(17, "best(n, 0), two sitting", Towns::lively, (x, n) -> x.best(n, 0), 1, 23, 60, 23);
        b.ends(17, "best(60, what)", five, (x, what) -> x.best(60, what), 0, 23, 1, 600);
        Bounds.Way strangers = Towns.laid("p3;p3;p0;t2,9,9,0;");
        b.ends(17, "best(1, what), no FRIENDS", strangers, (x, what) -> x.best(1, what), 0, NONE, 1, NONE);
        b.beyond(17, "best(n, 0), no FRIENDS", strangers, (x, n) -> x.best(n, 0), 1, 60);
        b.asks(17, "one PERSON: none", Towns.laid("p3;"), x -> x.best(60, 0), NONE);
        b.asks(17, "one PERSON: none, how much", Towns.laid("p3;"), x -> x.best(60, 1), NONE);
        b.refuses(17, "best(0, 2)", five, x -> x.best(0, 2), BAD);
    }

    private static void bestAnswers() {
        Bounds b = BOUNDS;
        b.asks(17, "FRIENDS who bring nothing: the first", Towns.laid("p0;p0;p0;f1,2;"), x -> x.best(60, 0), 12);
        b.asks(17, "FRIENDS who bring nothing: 0", Towns.laid("p0;p0;p0;f1,2;"), x -> x.best(60, 1), 0);
        b.asks(17, "the most: 1200", Towns.laid("p0;p0;p0;f0,1;" + "t2,20,9,0;".repeat(7)), x -> x.best(60, 1), 1200);
        b.asks(17, "the last two alone", Towns.laid("p0;p0;p0;p0;p3;p3;f0,1;f4,5;"), x -> x.best(1, 0), 45);
        b.asks(17, "the last one first: 54", Towns.laid("p0;p0;p0;p0;p0;p0;f4,5;t0,1,1,4;t0,2,1,5;"),
                x -> x.best(1, 0), 54);
        b.asks(17, "0 first is told by the other one alone", Towns.laid("p3;p0;p3;f0,2;"), x -> x.best(1, 0), 2);
        // Each of 01, 10, 02, 20, 12, 21 brings 10 a MINUTE.
        String three = "p3;p3;p3;f0,1;f1,2;f0,2;";
        b.asks(17, "of several the first, by the first one and then the other", Towns.laid(three),
                x -> x.best(1, 0), 1);
        b.asks(17, "of several the first, told in another order", Towns.laid("p3;p3;p3;f2,1;f2,0;"),
                x -> x.best(1, 0), 2);
        // 0 can tell 1 ILL by 5, 0 can tell 2 ILL by 5; 12 are silent.
        b.asks(17, "of several with the same first one: the other one", Towns.laid("p0;p0;p0;p0;f0,2;f0,1;t3,5,1,0;"),
                x -> x.best(1, 0), 1);
        b.asks(17, "one more is enough to be BEST", Towns.laid("p0;p0;p0;p0;f0,1;f2,3;t2,5,1,0;t0,6,1,3;"),
                x -> x.best(1, 0), 23);
        b.asks(17, "of either order that which brings more", Towns.laid("p0;p0;p0;f0,1;t2,1,1,0;t2,2,1,1;"),
                x -> x.best(1, 0), 10);
        b.asks(17, "of either order that with the lower first", Towns.laid("p0;p0;p0;f0,1;t2,2,1,0;t2,1,1,1;"),
                x -> x.best(1, 0), 1);
        b.asks(17, "of either order that with the lower first: how much",
                Towns.laid("p0;p0;p0;f0,1;t2,2,1,0;t2,1,1,1;"),
                x -> x.best(1, 1), 2);
        b.asks(17, "of either order, alike, the lower first", Towns.laid("p0;p0;p0;f0,1;t2,1,1,0;t2,2,1,1;"),
                x -> x.best(2, 0), 1);
    }

    private static void hearsNumbers() {
        Bounds b = BOUNDS;
        Bounds.Way six = Towns.laid(Towns.SIX);
        b.ends(20, "hears(t, 0)", six, (x, t) -> x.hears(t, 0), 0, 0, 8, NONE);
        b.ends(20, "hears(t, 4), two sitting", Towns::lively, (x, t) -> x.hears(t, 4), 0, 1, 2, 0);
        b.ends(20, "hears(0, p)", six, (x, p) -> x.hears(0, p), 0, 0, 5, 1);
        b.ends(20, "hears(1, p) of five", Towns.laid(Towns.FIVE), (x, p) -> x.hears(1, p), 0, 1, 4, 2);
        b.refuses(20, "no TALES: not the first either", Towns.laid(TWO_YOUNG), x -> x.hears(0, 0), BAD);
        b.refuses(20, "no wrap-around by bits: TALE 32", six, x -> x.hears(32, 0), BAD);
        b.refuses(20, "no wrap-around by bits: PERSON 32", six, x -> x.hears(0, 32), BAD);
        b.refuses(20, "none such, both", six, x -> x.hears(9, 6), BAD);
    }

    private static void hearsAnswers() {
        Bounds b = BOUNDS;
        // Six in a row, the last one being who the TALE is of: the farthest who can hear it is 4 away.
        String row = "p0;p2;p3;p0;p0;p0;f0,1;f1,2;f2,3;f3,4;f4,5;t5,1,1,0;";
        b.asks(20, "0: it KNOWS it", Towns.laid(row), x -> x.hears(0, 0), 0);
        b.asks(20, "1: of a FRIEND", Towns.laid(row), x -> x.hears(0, 1), 1);
        b.asks(20, "4, the most: all others on the way", Towns.laid(row), x -> x.hears(0, 4), 4);
        b.asks(20, "NONE: it is of the last one", Towns.laid(row), x -> x.hears(0, 5), NONE);
        b.asks(20, "the fewest, of two ways", Towns.laid("p0;p0;p0;p0;p0;f0,1;f1,2;f2,3;f3,0;t4,1,1,0;"),
                x -> x.hears(0, 3), 1);
        b.asks(20, "the fewest, of two who KNOW it", Towns.laid("p0;p0;p0;p0;f0,1;f1,2;t3,1,1,02;"),
                x -> x.hears(0, 1), 1);
        b.asks(20, "a WIDOW hears it", Towns.laid("p0;p1;p0;f0,1;t2,1,1,0;"), x -> x.hears(0, 1), 1);
        b.asks(20, "from the higher to the lower one", Towns.laid("p0;p0;p0;p0;f0,1;f1,2;t3,1,1,2;"),
                x -> x.hears(0, 0), 2);
        b.asks(20, "by what was heard, ahead of this sitting", Towns::stood, x -> x.hears(1, 4), 1);
        b.asks(20, "nothing is TOLD yet, though it was, this sitting", () -> {
            ChurnTalk x = Towns.stood();
            x.undo();
            return x;
        }, x -> x.hears(1, 4), 1);
        b.asks(20, "what is being told is not KNOWN yet", () -> {
            ChurnTalk x = nine();
            x.pass(8);
            return x;
        }, x -> x.hears(0, 1), 1);
        b.asks(20, "what was TOLD is KNOWN", () -> {
            ChurnTalk x = nine();
            x.pass(9);
            return x;
        }, x -> x.hears(0, 1), 0);
        b.asks(20, "HUSHED, and it KNOWS it: 0", Towns::lively, x -> x.hears(2, 1), 0);
    }

    private static void hearsNone() {
        Bounds b = BOUNDS;
        b.asks(20, "NONE: HUSHED", Towns::lively, x -> x.hears(2, 2), NONE);
        b.asks(20, "NONE: no FRIENDS", Towns.laid("p0;p0;p0;t2,1,1,0;"), x -> x.hears(0, 1), NONE);
        b.asks(20, "NONE: a WIDOW alone KNOWS it", Towns.laid("p1;p0;p0;f0,1;t2,1,1,0;"), x -> x.hears(0, 1), NONE);
        b.asks(20, "NONE: a WIDOW on the way", Towns.laid("p0;p1;p0;p0;f0,1;f1,2;t3,1,1,0;"), x -> x.hears(0, 2), NONE);
        b.asks(20, "NONE: who it is of", Towns.laid("p0;p0;f0,1;t1,1,1,0;"), x -> x.hears(0, 1), NONE);
        b.asks(20, "NONE: who it is of is on the way", Towns.laid("p0;p0;p0;f0,1;f1,2;t1,1,1,0;"),
                x -> x.hears(0, 2), NONE);
        b.asks(20, "NONE: FRIENDS, but of others alone", Towns.laid("p0;p0;p0;p0;p0;f0,1;f2,3;t4,1,1,0;"),
                x -> x.hears(0, 3), NONE);
    }
}
