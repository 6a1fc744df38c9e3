/** Boundary cases of promises 9 to 13: two sit down, stand up, minutes, tales hushed, undone. */
public final class ActBoundsTest {
    private static final int BAD = Bounds.BAD, NO = Bounds.NO, NONE = Bounds.NONE;
    private static final Bounds BOUNDS = new Bounds();

    /** Six persons; the first and the last are FRIENDS, and each KNOWS a TALE of 1. */
    private static final String ENDS = "p0;p0;p0;p0;p0;p0;f0,5;t1,3,1,0;t1,4,1,5;";
    private static final String TWO_YOUNG = "p3;p3;f0,1;";

    public static void main(String[] args) {
        sitNumbers();
        sitRefused();
        sitAnswers();
        stand();
        standWithinTale();
        passNumbers();
        passOfParsons();
        passOfTales();
        passOfTurns();
        passInSilence();
        hushNumbers();
        hushRefused();
        hushAnswers();
        undoNothing();
        undoOne();
        undoEight();
        BOUNDS.end(9, 10, 11, 12, 13);
    }

    /** How much BUTTER there is behind so many MINUTES of two. */
    private static void butterIs(String sentence, String town, int a, int b, int n, int butter) {
        BOUNDS.is(11, sentence, Towns.laid(town), x -> {
            x.sit(a, b);
            return x.pass(n);
        }, butter);
    }

    private static void sitNumbers() {
        Bounds b = BOUNDS;
        Bounds.Way six = Towns.laid(ENDS);
        b.is(9, "the first PERSON first, the last one the other", six, x -> x.sit(0, 5), 0b01);
        b.is(9, "the last PERSON first, the first one the other", six, x -> x.sit(5, 0), 0b10);
        b.beyond(9, "sit(a, 5)", six, (x, a) -> x.sit(a, 5), 0, 5);
        b.beyond(9, "sit(0, b)", six, (x, a) -> x.sit(0, a), 0, 5);
        b.beyond(9, "sit(a, 1), somebody sitting", Towns::lively, (x, a) -> x.sit(a, 1), 0, 4);
        b.beyond(9, "sit(1, b), somebody sitting", Towns::lively, (x, a) -> x.sit(1, a), 0, 4);
        b.refuses(9, "alike: the first", six, x -> x.sit(0, 0), BAD);
        b.refuses(9, "alike: the last", six, x -> x.sit(5, 5), BAD);
        b.refuses(9, "alike, and none such", six, x -> x.sit(6, 6), BAD);
        b.refuses(9, "alike, somebody sitting", Towns::lively, x -> x.sit(2, 2), BAD);
        b.refuses(9, "no wrap-around by bits: 32", six, x -> x.sit(32, 5), BAD);
        b.refuses(9, "no wrap-around by bits: 37", six, x -> x.sit(0, 37), BAD);
        b.refuses(9, "the largest and the smallest int", six, x -> x.sit(Bounds.LARGEST, Bounds.SMALLEST), BAD);
    }

    private static void sitRefused() {
        Bounds b = BOUNDS;
        b.refuses(9, "somebody SITS: two others", Towns::lively, x -> x.sit(2, 3), NO);
        b.refuses(9, "somebody SITS: the same two", Towns::lively, x -> x.sit(0, 1), NO);
        b.refuses(9, "somebody SITS: the same two, the other way round", Towns::lively, x -> x.sit(1, 0), NO);
        b.refuses(9, "somebody SITS: one of them with another", Towns::lively, x -> x.sit(1, 2), NO);
        b.refuses(9, "somebody SITS, and these are no FRIENDS", Towns::lively, x -> x.sit(2, 4), NO);
        b.refuses(9, "no FRIENDS, though FRIENDS of others", Towns::stood, x -> x.sit(0, 2), NO);
        b.refuses(9, "no FRIENDS, the other way round", Towns::stood, x -> x.sit(2, 0), NO);
        b.refuses(9, "no FRIENDS at all", Towns.laid("p3;p3;"), x -> x.sit(0, 1), NO);
        b.is(9, "nobody SITS any more: two others can", Towns::stood, x -> x.sit(1, 2), 0b110);
    }

    private static void sitAnswers() {
        Bounds b = BOUNDS;
        b.is(9, "no TALE that it KNOWS", Towns.laid(Towns.NINE), x -> x.sit(1, 0), 0);
        b.is(9, "all nine TALES", Towns.laid(Towns.NINE), x -> x.sit(0, 1), 0b111111111);
        b.is(9, "a WIDOW can tell none", Towns.laid(Towns.FIVE), x -> x.sit(4, 0), 0);
        b.is(9, "a WIDOW can be told", Towns.laid(Towns.FIVE), x -> x.sit(0, 4), 0b001);
        b.is(9, "none of the other one", Towns.laid(Towns.FIVE), x -> x.sit(1, 0), 0b011);
        b.is(9, "one that the other one KNOWS, too", Towns.laid(Towns.FIVE), x -> x.sit(0, 1), 0b001);
        b.is(9, "one of itself", Towns.laid("p0;p0;p0;f0,1;f0,2;t1,1,1,2;t1,1,1,0;"), x -> x.sit(0, 2), 0b10);
        b.is(9, "none that is HUSHED", Towns.laid(Towns.NINE), x -> {
            x.hush(0);
            x.hush(8);
            return x.sit(0, 1);
        }, 0b011111110);
        b.is(9, "nothing was TOLD since they SIT, whatever was ahead", Towns::stood, x -> x.sit(0, 1), 0b011);
        b.run(9, "the first one is to tell, no TALE is being told yet", due -> {
            ChurnTalk x = Due.laid(ENDS);
            x.sit(5, 0);
            int[] who = {5, 0, 5, NONE, 0, 0};
            for (int what = 0; what < who.length; what++) {
                due.is("churn(" + what + ")", x.churn(what), who[what]);
            }
            due.is("no MINUTE goes by", x.count(3), 0);
            due.is("one act", x.count(7), 1);
        });
    }

    private static ChurnTalk satNine(int minutes) {
        ChurnTalk x = Due.laid(Towns.NINE);
        x.sit(0, 1);
        for (int k = 0; k < minutes; k++) {
            x.pass(1);
        }
        return x;
    }

    private static void stand() {
        Bounds b = BOUNDS;
        b.refuses(10, "nobody has sat yet", ChurnTalk::new, x -> x.stand(), NO);
        b.refuses(10, "they have stood up", Towns::stood, x -> x.stand(), NO);
        b.is(10, "nothing TOLD: at once", () -> satNine(0), x -> x.stand(), 0);
        b.is(10, "nothing TOLD: a MINUTE ahead of the first TALE's end", () -> satNine(8), x -> x.stand(), 0);
        b.is(10, "one TALE TOLD, just now", () -> satNine(9), x -> x.stand(), 1);
        b.is(10, "one TALE TOLD, a second begun", () -> satNine(10), x -> x.stand(), 1);
        b.is(10, "eight TOLD, a MINUTE ahead of the end", () -> satNine(80), x -> x.stand(), 8);
        b.is(10, "all nine TOLD", () -> satNine(81), x -> x.stand(), 9);
        b.is(10, "all nine TOLD, and silence", () -> satNine(90), x -> x.stand(), 9);
        b.run(10, "TOLD are those of this sitting alone", due -> {
            ChurnTalk x = satNine(18);
            due.is("two", x.stand(), 2);
            x.sit(0, 1);
            x.pass(9);
            due.is("one of them once more", x.stand(), 1);
            x.sit(0, 1);
            due.is("none", x.stand(), 0);
        });
        b.run(10, "nobody SITS then, BUTTER and MINUTES stay", due -> {
            ChurnTalk x = Towns.lively();
            due.is("stand()", x.stand(), 0);
            due.is("churn(0)", x.churn(0), NONE);
            due.is("person(0, 3)", x.person(0, 3), 0);
            due.is("person(1, 3)", x.person(1, 3), 0);
            due.is("BUTTER", x.count(4), 5);
            due.is("MINUTES", x.count(3), 2);
            due.is("HUSHED", x.count(5), 1);
        });
    }

    private static void standWithinTale() {
        Bounds b = BOUNDS;
        b.run(10, "a TALE that is being told was not TOLD: nobody heard it", due -> {
            ChurnTalk x = satNine(8);
            x.stand();
            due.is("what 1 KNOWS", x.person(1, 2), 0);
            due.is("who KNOWS tale 0", x.tale(0, 4), 0b001);
        });
        b.run(10, "a TALE that is being told was not TOLD: it begins anew", due -> {
            ChurnTalk x = satNine(8);
            x.stand();
            x.sit(0, 1);
            x.pass(1);
            due.is("tale 0", x.churn(3), 0);
            due.is("all its MINUTES but one to go", x.churn(4), 8);
        });
        b.run(10, "it is told no more: it can be HUSHED", due -> {
            ChurnTalk x = satNine(8);
            due.is("while it is told", x.hush(0), NO);
            x.stand();
            due.is("hush(0)", x.hush(0), 8);
        });
    }

    private static void passNumbers() {
        Bounds b = BOUNDS;
        b.is(11, "1 MINUTE, the fewest", Towns::lively, x -> x.pass(1), 10);
        b.is(11, "60 MINUTES, the most", Towns.laid(Towns.FIVE), x -> {
            x.sit(2, 3);
            return x.pass(60);
        }, 600);
        b.is(11, "60 MINUTES go by", Towns.laid(Towns.FIVE), x -> {
            x.pass(60);
            return x.count(3);
        }, 60);
        b.beyond(11, "pass(n), two sitting", Towns::lively, (x, n) -> x.pass(n), 1, 60);
        b.beyond(11, "pass(n), nobody sitting", Towns::stood, (x, n) -> x.pass(n), 1, 60);
        b.refuses(11, "pass(-1)", Towns::lively, x -> x.pass(-1), BAD);
        b.refuses(11, "pass(-60)", Towns::lively, x -> x.pass(-60), BAD);
        b.run(11, "nobody SITS: a MINUTE goes by, and that is all", due -> {
            ChurnTalk x = Towns.stood();
            due.is("pass(1)", x.pass(1), 19);
            due.is("MINUTES", x.count(3), 6);
            due.is("pass(60)", x.pass(60), 19);
            due.is("MINUTES", x.count(3), 66);
            due.is("TALES that all KNOW", x.count(6), 6);
        });
        b.run(11, "60 MINUTES at one time are as 60 one by one", due -> {
            ChurnTalk x = Due.laid(Towns.FIRST);
            ChurnTalk y = Due.laid(Towns.FIRST);
            x.sit(1, 4);
            y.sit(1, 4);
            for (int k = 0; k < 60; k++) {
                x.pass(1);
            }
            y.pass(60);
            due.same("all that stands", Trace.ofNow(y), Trace.ofNow(x));
        });
    }

    private static void passOfParsons() {
        butterIs("half of 1, cut, by a PARSON: 0", "p2;p0;p0;f0,1;t2,1,1,0;", 0, 1, 1, 0);
        butterIs("half of 2 by a PARSON: 1", "p2;p0;p0;f0,1;t2,2,1,0;", 0, 1, 1, 1);
        butterIs("half of 3, cut, by a PARSON: 1", "p2;p0;p0;f0,1;t2,3,1,0;", 0, 1, 1, 1);
        butterIs("half of 19, cut, by a PARSON: 9", "p2;p0;p0;f0,1;t2,19,1,0;", 0, 1, 1, 9);
        butterIs("half of 20 by a PARSON: 10", "p2;p0;p0;f0,1;t2,20,1,0;", 0, 1, 1, 10);
        butterIs("cut by the MINUTE: nine times 0", "p2;p0;p0;f0,1;t2,1,9,0;", 0, 1, 9, 0);
        butterIs("cut by the MINUTE: nine times 9", "p2;p0;p0;f0,1;t2,19,9,0;", 0, 1, 9, 81);
        butterIs("whole to a PARSON", "p0;p2;p0;f0,1;t2,19,1,0;", 0, 1, 1, 19);
        butterIs("whole of a PARSON", "p0;p0;p2;f0,1;t2,19,1,0;", 0, 1, 1, 19);
        butterIs("half by the other one, a PARSON", "p0;p2;p0;f0,1;t2,19,1,1;", 0, 1, 1, 9);
        butterIs("half by either of two PARSONS", "p2;p2;p0;f0,1;t2,5,1,0;t2,7,1,1;", 0, 1, 2, 5);
    }

    private static void passOfTales() {
        butterIs("ILL by 1, the least", "p0;p0;p0;f0,1;t2,1,1,0;", 0, 1, 1, 1);
        butterIs("ILL by 20, the most", "p0;p0;p0;f0,1;t2,20,1,0;", 0, 1, 1, 20);
        butterIs("a TALE of one MINUTE gives but once", "p0;p0;p0;f0,1;t2,7,1,0;", 0, 1, 60, 7);
        butterIs("a TALE of nine MINUTES, behind eight", "p0;p0;p0;f0,1;t2,7,9,0;", 0, 1, 8, 56);
        butterIs("a TALE of nine MINUTES, behind nine", "p0;p0;p0;f0,1;t2,7,9,0;", 0, 1, 9, 63);
        butterIs("a TALE of nine MINUTES, behind ten", "p0;p0;p0;f0,1;t2,7,9,0;", 0, 1, 10, 63);
        butterIs("the most in 60 MINUTES", "p0;p0;p0;f0,1;" + "t2,20,9,0;".repeat(7), 0, 1, 60, 1200);
        butterIs("the lowest TALE first", "p0;p0;p0;f0,1;t2,3,1,0;t2,9,1,0;", 0, 1, 1, 3);
        butterIs("no TALE of the other one", "p0;p0;p0;f0,1;t1,3,1,0;t2,9,1,0;", 0, 1, 1, 9);
        butterIs("a TALE that the other one KNOWS, too", "p0;p0;p0;f0,1;t2,3,1,01;", 0, 1, 1, 3);
        butterIs("a TALE that both KNOW is TOLD once", "p0;p0;p0;f0,1;t2,3,1,01;", 0, 1, 60, 3);
        butterIs("a TALE of the one who tells it", "p0;p0;p0;f0,1;f1,2;t0,3,1,2;t1,5,1,0;", 1, 2, 60, 3);
        BOUNDS.run(11, "each MINUTE of a TALE, the one in which it begins, too", due -> {
            ChurnTalk x = Due.laid("p0;p0;p0;f0,1;t2,7,3,0;");
            x.sit(0, 1);
            for (int k = 1; k <= 4; k++) {
                due.is("MINUTE " + k, x.pass(1), 7 * Math.min(k, 3));
            }
        });
        BOUNDS.run(11, "a TALE heard now is told in the next sitting alone", due -> {
            ChurnTalk x = Due.laid("p0;p0;p0;f0,1;t2,7,1,0;");
            x.sit(0, 1);
            due.is("a MINUTE", x.pass(1), 7);
            due.is("silence", x.pass(60), 7);
            x.stand();
            due.is("1 can tell it", x.sit(1, 0), 0b1);
            due.is("1 tells it", x.pass(60), 14);
        });
    }

    /** Who is to tell, or tells, behind each MINUTE. */
    private static void tellersAre(String sentence, String town, int a, int b, int... tellers) {
        BOUNDS.run(11, sentence, due -> {
            ChurnTalk x = Due.laid(town);
            x.sit(a, b);
            for (int k = 0; k < tellers.length; k++) {
                x.pass(1);
                due.is("MINUTE " + (k + 1), x.churn(2), tellers[k]);
            }
        });
    }

    private static void passOfTurns() {
        String both = "p0;p0;p0;f0,1;t2,1,2,0;t2,2,2,1;t2,4,2,0;";
        tellersAre("who heard a TALE is to tell then", both, 0, 1, 0, 1, 1, 0, 0, 1, 1);
        tellersAre("the other one, sitting first, tells first", both, 1, 0, 1, 0, 0, 1, 0, 1, 1);
        tellersAre("who has none leaves it to the other one", "p0;p0;p0;f0,1;t2,1,2,1;", 0, 1, 1, 0, 0);
        tellersAre("in silence who is to tell stays so", "p0;p0;p0;f0,1;", 1, 0, 1, 1, 1);
        tellersAre("a WIDOW leaves it to the other one", "p1;p0;p0;f0,1;t2,1,1,01;", 0, 1, 0, 0);
        butterIs("who has none leaves it to the other one: its I", "p0;p0;p0;f0,1;t2,6,1,1;", 0, 1, 1, 6);
        butterIs("a WIDOW leaves all to the other one", "p1;p0;p0;f0,1;t2,9,1,0;t2,4,1,1;", 0, 1, 60, 4);
        butterIs("two WIDOWS tell nothing", "p1;p1;p0;f0,1;t2,9,1,0;t2,4,1,1;", 0, 1, 60, 0);
    }

    private static void passInSilence() {
        butterIs("both YOUNG: a MINUTE of SILENCE", TWO_YOUNG, 0, 1, 1, 10);
        butterIs("both YOUNG: 60 of SILENCE", TWO_YOUNG, 1, 0, 60, 600);
        butterIs("the first one YOUNG alone", "p3;p0;f0,1;", 0, 1, 60, 0);
        butterIs("the other one YOUNG alone", "p3;p0;f0,1;", 1, 0, 60, 0);
        butterIs("one YOUNG, one PARSON", "p3;p2;f0,1;", 0, 1, 60, 0);
        butterIs("one YOUNG, one WIDOW", "p3;p1;f0,1;", 0, 1, 60, 0);
        butterIs("two PLAIN ones", "p0;p0;f0,1;", 0, 1, 60, 0);
        butterIs("both YOUNG, while a TALE is told: I alone", "p3;p3;p0;f0,1;t2,4,3,0;", 0, 1, 3, 12);
        butterIs("both YOUNG, the first MINUTE behind it", "p3;p3;p0;f0,1;t2,4,3,0;", 0, 1, 4, 22);
        BOUNDS.is(11, "two YOUNG FRIENDS who stand", Towns.laid(TWO_YOUNG), x -> x.pass(60), 0);
        BOUNDS.is(11, "what is HUSHED is SILENCE", Towns.laid("p3;p3;p0;f0,1;t2,4,3,0;"), x -> {
            x.hush(0);
            x.sit(0, 1);
            return x.pass(1);
        }, 10);
    }

    private static void hushNumbers() {
        Bounds b = BOUNDS;
        b.is(12, "the first of nine TALES", Towns.laid(Towns.SIX), x -> x.hush(0), 8);
        b.is(12, "the last of nine TALES", Towns.laid(Towns.SIX), x -> x.hush(8), 8);
        b.is(12, "the only TALE", Towns.laid("p0;p0;t0,1,1,1;"), x -> x.hush(0), 0);
        b.beyond(12, "hush(t), nine TALES", Towns.laid(Towns.SIX), (x, t) -> x.hush(t), 0, 8);
        b.beyond(12, "hush(t), three TALES", Towns::lively, (x, t) -> x.hush(t), 0, 2);
        b.refuses(12, "no TALES: not the first either", Towns.laid(TWO_YOUNG), x -> x.hush(0), BAD);
        b.refuses(12, "no wrap-around by bits: 33", Towns::lively, x -> x.hush(33), BAD);
    }

    private static void hushRefused() {
        Bounds b = BOUNDS;
        b.refuses(12, "it is HUSHED", Towns::lively, x -> x.hush(2), NO);
        b.refuses(12, "it is being told", Towns::lively, x -> x.hush(0), NO);
        b.refuses(12, "it is being told, since a MINUTE", () -> satNine(1), x -> x.hush(0), NO);
        b.refuses(12, "it is being told, for a MINUTE more", () -> satNine(8), x -> x.hush(0), NO);
        b.refuses(12, "all are HUSHED", () -> {
            ChurnTalk x = Due.laid("p0;p0;t0,1,1,1;");
            x.hush(0);
            return x;
        }, x -> x.hush(0), NO);
    }

    private static void hushAnswers() {
        Bounds b = BOUNDS;
        b.is(12, "it was just TOLD", () -> satNine(9), x -> x.hush(0), 8);
        b.is(12, "two sit, and have not begun it", () -> satNine(0), x -> x.hush(0), 8);
        b.is(12, "another one is being told", () -> satNine(1), x -> x.hush(1), 8);
        b.is(12, "they stood up", Towns::stood, x -> x.hush(0), 2);
        b.run(12, "nine, one by one: 8 to 0 are not HUSHED", due -> {
            ChurnTalk x = Due.laid(Towns.NINE);
            for (int t = 8; t >= 0; t--) {
                due.is("hush(" + t + ")", x.hush(t), t);
            }
            due.is("count(5)", x.count(5), 9);
        });
        b.run(12, "nobody tells it any more, not this sitting and not the next", due -> {
            ChurnTalk x = Due.laid("p0;p0;p0;f0,1;t2,7,1,0;");
            x.sit(0, 1);
            x.hush(0);
            due.is("this sitting", x.pass(60), 0);
            x.stand();
            due.is("the next sitting: to tell", x.sit(0, 1), 0);
            due.is("the next sitting", x.pass(60), 0);
        });
        b.run(12, "who KNOWS it still does", due -> {
            ChurnTalk x = Due.laid(Towns.NINE);
            x.hush(8);
            due.is("person(0, 2)", x.person(0, 2), 0b111111111);
            due.is("tale(8, 4)", x.tale(8, 4), 0b001);
        });
    }

    private static void undoNothing() {
        Bounds b = BOUNDS;
        b.refuses(13, "nothing done yet", ChurnTalk::new, x -> x.undo(), NO);
        b.refuses(13, "LAID anew", () -> {
            ChurnTalk x = Towns.lively();
            x.lay();
            return x;
        }, x -> x.undo(), NO);
        b.refuses(13, "all is UNDONE", () -> {
            ChurnTalk x = Towns.lively();
            for (int k = 0; k < 4; k++) {
                x.undo();
            }
            return x;
        }, x -> x.undo(), NO);
        b.refuses(13, "behind back nothing can be", () -> {
            ChurnTalk x = Towns.lively();
            x.back();
            return x;
        }, x -> x.undo(), NO);
        b.run(13, "no acts: letters, questions, keep", due -> {
            ChurnTalk x = Due.laid(Towns.FIVE);
            x.write('p');
            x.wipe();
            x.fault();
            x.keep();
            x.comes(1);
            x.brings(0, 1, 60);
            x.best(60, 0);
            x.twos(60, 0);
            x.cost(60, 0);
            x.held(0, 1, 60, 5, 5, 0);
            x.day(5, 60, 0);
            due.is("count(7)", x.count(7), 0);
            due.is("undo()", x.undo(), NO);
        });
        b.run(13, "no acts: what is refused", due -> {
            ChurnTalk x = Due.laid(Towns.FIVE);
            x.sit(0, 0);
            x.sit(0, 2);
            x.stand();
            x.pass(0);
            x.pass(61);
            x.hush(3);
            x.undo();
            x.back();
            due.is("count(7)", x.count(7), 0);
            due.is("undo()", x.undo(), NO);
        });
    }

    /** An act of the lively town, UNDONE, leaves all as it was. */
    private static void isUndone(String sentence, Bounds.Call act) {
        BOUNDS.run(13, sentence, due -> {
            ChurnTalk x = Towns.lively();
            act.on(x);
            due.is("count(7)", x.count(7), 5);
            due.is("undo()", x.undo(), 4);
            due.same("all", Trace.of(x), Trace.of(Towns.lively()));
        });
    }

    private static void undoOne() {
        isUndone("they STAND UP, UNDONE: a TALE is being told again", x -> x.stand());
        isUndone("a MINUTE, UNDONE", x -> x.pass(1));
        isUndone("60 MINUTES at one time are one", x -> x.pass(60));
        isUndone("a TALE HUSHED, UNDONE", x -> x.hush(1));
        BOUNDS.run(13, "two SIT, UNDONE", due -> {
            ChurnTalk x = Towns.stood();
            x.sit(1, 2);
            due.is("undo()", x.undo(), 3);
            due.same("all", Trace.of(x), Trace.of(Towns.stood()));
        });
        BOUNDS.run(13, "the one act there is", due -> {
            ChurnTalk x = new ChurnTalk();
            x.pass(60);
            due.is("count(7)", x.count(7), 1);
            due.is("undo()", x.undo(), 0);
            due.same("all", Trace.of(x), Trace.of(new ChurnTalk()));
        });
        BOUNDS.run(13, "to UNDO is no act, and behind it there is room for one", due -> {
            ChurnTalk x = Towns.lively();
            x.undo();
            due.is("count(7)", x.count(7), 3);
            x.pass(2);
            due.is("count(7) behind an act", x.count(7), 4);
            due.is("undo()", x.undo(), 3);
            due.is("MINUTES", x.count(3), 1);
        });
        BOUNDS.run(13, "THE TEXT and what is KEPT are not UNDONE", due -> {
            ChurnTalk x = Towns.lively();
            x.keep();
            x.write('p');
            due.is("undo()", x.undo(), 3);
            due.is("letters", x.count(9), Towns.FIVE.length() + 1);
            due.is("KEPT", x.count(8), 2);
        });
    }

    /** So many acts: the k-th is k MINUTES. */
    private static ChurnTalk passed(int acts) {
        ChurnTalk x = Due.laid(TWO_YOUNG);
        for (int k = 1; k <= acts; k++) {
            x.pass(k);
        }
        return x;
    }

    private static void undoEight() {
        Bounds b = BOUNDS;
        b.is(13, "behind seven acts six more can be", () -> passed(7), x -> x.undo(), 6);
        b.is(13, "behind eight acts seven more can be", () -> passed(8), x -> x.undo(), 7);
        b.is(13, "behind nine acts seven more can be", () -> passed(9), x -> x.undo(), 7);
        b.is(13, "behind 60 acts seven more can be", () -> passed(60), x -> x.undo(), 7);
        b.run(13, "all eight of eight acts", due -> {
            ChurnTalk x = passed(8);
            for (int more = 7; more >= 0; more--) {
                due.is("undo()", x.undo(), more);
            }
            due.is("a ninth time", x.undo(), NO);
            due.is("MINUTES", x.count(3), 0);
        });
        b.run(13, "of nine acts the first one stays", due -> {
            ChurnTalk x = passed(9);
            int minutes = 45;
            for (int k = 9; k >= 2; k--) {
                due.is("undo() of " + k + " MINUTES", x.undo(), k - 2);
                minutes -= k;
                due.is("MINUTES", x.count(3), minutes);
            }
            due.is("a ninth time", x.undo(), NO);
            due.is("the one MINUTE stays", x.count(3), 1);
        });
        b.run(13, "a wrap-around: acts, UNDONE, and acts again", due -> {
            ChurnTalk x = passed(12);
            for (int k = 0; k < 5; k++) {
                x.undo();
            }
            due.is("behind 7 acts", x.count(3), 28);
            for (int k = 0; k < 5; k++) {
                x.pass(10);
            }
            for (int more = 7; more >= 0; more--) {
                due.is("undo()", x.undo(), more);
            }
            due.is("a ninth time", x.undo(), NO);
            due.is("behind 4 acts", x.count(3), 10);
        });
    }
}
