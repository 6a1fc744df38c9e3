/** Boundary cases of promises 1 to 3 and 6 to 8: a new object, letters, persons, tales, who sits. */
public final class TownBoundsTest {
    private static final int BAD = Bounds.BAD, NO = Bounds.NO, FULL = Bounds.FULL, NONE = Bounds.NONE;
    private static final Bounds BOUNDS = new Bounds();
    private static final Bounds.Way NEW = ChurnTalk::new;

    public static void main(String[] args) {
        newObject();
        newTown();
        write();
        writeFull();
        wipe();
        personNumbers();
        personAnswers();
        taleNumbers();
        taleAnswers();
        churnNumbers();
        churnOfNobody();
        churnOfTold();
        BOUNDS.end(1, 2, 3, 6, 7, 8);
    }

    private static void newObject() {
        Bounds b = BOUNDS;
        b.asks(1, "THE TEXT is empty", NEW, x -> x.count(9), 0);
        b.is(1, "THE TEXT is empty: nothing to wipe", NEW, x -> x.wipe(), 0);
        b.is(1, "THE TEXT is empty: a letter is the first one", NEW, x -> x.write('p'), 1);
        b.asks(1, "THE TEXT is empty: no FAULT", NEW, x -> x.fault(), NONE);
        b.refuses(1, "THE TEXT is empty: no PERSON, so nothing is LAID", NEW, x -> x.lay(), NO);
        b.asks(1, "MINUTE 0", NEW, x -> x.count(3), 0);
        b.asks(1, "no BUTTER", NEW, x -> x.count(4), 0);
        b.asks(1, "nobody SITS", NEW, x -> x.churn(0), NONE);
        b.asks(1, "nothing HUSHED", NEW, x -> x.count(5), 0);
        b.asks(1, "nothing can be UNDONE", NEW, x -> x.count(7), 0);
        b.refuses(1, "nothing can be UNDONE: undo", NEW, x -> x.undo(), NO);
        b.asks(1, "nothing is KEPT", NEW, x -> x.count(8), 0);
        b.refuses(1, "nothing is KEPT: back", NEW, x -> x.back(), NO);
        b.run(1, "one object has nothing of another one's", due -> {
            ChurnTalk one = new ChurnTalk();
            ChurnTalk other = new ChurnTalk();
            one.sit(0, 1);
            one.pass(9);
            one.hush(3);
            one.keep();
            one.write('p');
            due.same("the other one", Trace.of(other), Trace.of(new ChurnTalk()));
        });
    }

    private static void newTown() {
        Bounds b = BOUNDS;
        b.asks(1, "six PERSONS at first", NEW, x -> x.count(0), 6);
        b.asks(1, "seven TALES at first", NEW, x -> x.count(1), 7);
        b.asks(1, "seven pairs of FRIENDS at first", NEW, x -> x.count(2), 7);
        b.asks(1, "TALES that all KNOW together at first: 1 2 1 1 2 1 1", NEW, x -> x.count(6), 9);
        b.asks(1, "the last PERSON at first", NEW, x -> x.person(5, 1), 0b010001);
        b.refuses(1, "no PERSON behind the last one at first", NEW, x -> x.person(6, 1), BAD);
        b.asks(1, "the last TALE at first", NEW, x -> x.tale(6, 1), 8);
        b.refuses(1, "no TALE behind the last one at first", NEW, x -> x.tale(7, 1), BAD);
        b.run(1, "what is LAID at first is what its TEXT lays", due -> due.same(
                "the town", Trace.ofNow(new ChurnTalk()), Trace.ofNow(Due.laid(Towns.FIRST))));
    }

    private static ChurnTalk filled(int letters) {
        return Due.written(";".repeat(letters));
    }

    private static void write() {
        Bounds b = BOUNDS;
        b.is(2, "32 is the first letter", NEW, x -> x.write(32), 1);
        b.is(2, "126 is the last letter", NEW, x -> x.write(126), 1);
        b.beyond(2, "write(letter)", NEW, (x, letter) -> x.write(letter), 32, 126);
        b.beyond(2, "write(letter) behind some", Towns::lively, (x, letter) -> x.write(letter), 32, 126);
        b.refuses(2, "0 is no letter", Towns::lively, x -> x.write(0), BAD);
        b.refuses(2, "no wrap-around by 256", Towns::lively, x -> x.write(256 + 'p'), BAD);
        b.refuses(2, "no wrap-around by 65536", Towns::lively, x -> x.write(65536 + 'p'), BAD);
        b.refuses(2, "no wrap-around below 0", Towns::lively, x -> x.write('p' - 256), BAD);
        b.run(2, "each letter from 32 to 126 is taken", due -> {
            ChurnTalk x = new ChurnTalk();
            for (int letter = 32; letter <= 126; letter++) {
                due.is("write(" + letter + ")", x.write(letter), letter - 31);
            }
        });
        b.run(2, "a letter comes behind the others", due -> {
            ChurnTalk x = new ChurnTalk();
            due.is("write p", x.write('p'), 1);
            due.is("write 3", x.write('3'), 2);
            due.is("write ;", x.write(';'), 3);
            due.is("lay()", x.lay(), 1);
            due.is("the KIND", x.person(0, 0), 3);
        });
        b.run(2, "but THE TEXT nothing changes", due -> {
            ChurnTalk x = Towns.lively();
            x.write('p');
            due.same("all else", Trace.ofNow(x), Trace.ofNow(Towns.lively()));
            due.is("what can be UNDONE", x.count(7), 4);
        });
    }

    private static void writeFull() {
        Bounds b = BOUNDS;
        b.is(2, "the first letter", () -> filled(0), x -> x.write('p'), 1);
        b.is(2, "letter 200 is the last", () -> filled(199), x -> x.write('p'), 200);
        b.refuses(2, "letter 201 is one too many", () -> filled(200), x -> x.write('p'), FULL);
        b.run(2, "FULL stays so", due -> {
            ChurnTalk x = filled(200);
            due.is("letter 201", x.write('p'), FULL);
            due.is("letter 202", x.write('p'), FULL);
            due.is("letters", x.count(9), 200);
        });
        b.run(2, "FULL leaves the letters as they are", due -> {
            String text = "p0;p0;" + "f00,1;".repeat(4) + "f0,1;".repeat(34);
            ChurnTalk x = Due.written(text);
            due.is("one more", x.write('x'), FULL);
            due.is("fault()", x.fault(), NONE);
            due.is("lay()", x.lay(), 2);
        });
        b.refuses(2, "a FULL TEXT, and no letter: 31", () -> filled(200), x -> x.write(31), BAD);
        b.refuses(2, "a FULL TEXT, and no letter: 127", () -> filled(200), x -> x.write(127), BAD);
        b.run(2, "there is room again behind wipe", due -> {
            ChurnTalk x = filled(200);
            x.wipe();
            due.is("write", x.write('p'), 1);
        });
    }

    private static void wipe() {
        Bounds b = BOUNDS;
        b.asks(3, "an empty TEXT was 0 long", NEW, x -> x.wipe(), 0);
        b.is(3, "a TEXT of one letter", () -> filled(1), x -> x.wipe(), 1);
        b.is(3, "a TEXT of 199 letters", () -> filled(199), x -> x.wipe(), 199);
        b.is(3, "a full TEXT", () -> filled(200), x -> x.wipe(), 200);
        b.run(3, "wiped twice, it was empty", due -> {
            ChurnTalk x = filled(200);
            due.is("wipe()", x.wipe(), 200);
            due.is("wipe() again", x.wipe(), 0);
        });
        b.run(3, "THE TEXT is empty then", due -> {
            ChurnTalk x = filled(200);
            x.wipe();
            due.same("all", Trace.of(x), Trace.of(new ChurnTalk()));
        });
        b.run(3, "no letter of before comes back", due -> {
            ChurnTalk x = Due.written("p0;p0;");
            x.wipe();
            x.write('p');
            due.is("fault(), the ; not written", x.fault(), 0);
            due.is("letters", x.count(9), 1);
        });
        b.run(3, "but THE TEXT nothing changes", due -> {
            ChurnTalk x = Towns.lively();
            due.is("wipe()", x.wipe(), Towns.FIVE.length());
            due.same("all else", Trace.ofNow(x), Trace.ofNow(Towns.lively()));
            due.is("what can be UNDONE", x.count(7), 4);
            due.is("what is KEPT", x.count(8), 1);
        });
    }

    private static void personNumbers() {
        Bounds b = BOUNDS;
        Bounds.Way six = Towns.laid("p3;p0;p0;p0;p0;p2;f0,5;t1,5,1,5;");
        b.ends(6, "person(p, 0), six PERSONS", six, (x, p) -> x.person(p, 0), 0, 3, 5, 2);
        b.ends(6, "person(p, 0), one PERSON", Towns.laid("p2;"), (x, p) -> x.person(p, 0), 0, 2, 0, 2);
        b.ends(6, "person(p, 1), five PERSONS", Towns::lively, (x, p) -> x.person(p, 1), 0, 0b10010, 4, 0b00001);
        b.ends(6, "person(p, 2), six PERSONS", six, (x, p) -> x.person(p, 2), 0, 0, 5, 0b1);
        b.ends(6, "person(p, 3), five PERSONS", Towns::lively, (x, p) -> x.person(p, 3), 0, 1, 4, 0);
        b.ends(6, "person(0, what)", Towns::lively, (x, what) -> x.person(0, what), 0, 0, 3, 1);
        b.ends(6, "person(4, what)", Towns::lively, (x, what) -> x.person(4, what), 0, 1, 3, 0);
        b.refuses(6, "person(32, 0): no wrap-around by bits", six, x -> x.person(32, 0), BAD);
        b.refuses(6, "person(5, 0) of five, both such as there are elsewhere", Towns::lively, x -> x.person(5, 0), BAD);
        b.refuses(6, "person(-1, -1)", Towns::lively, x -> x.person(-1, -1), BAD);
    }

    private static void personAnswers() {
        Bounds b = BOUNDS;
        Bounds.Way kinds = Towns.laid("p0;p1;p2;p3;");
        b.asks(6, "KIND 0, the first: PLAIN", kinds, x -> x.person(0, 0), 0);
        b.asks(6, "KIND 1: WIDOW", kinds, x -> x.person(1, 0), 1);
        b.asks(6, "KIND 2: PARSON", kinds, x -> x.person(2, 0), 2);
        b.asks(6, "KIND 3, the last: YOUNG", kinds, x -> x.person(3, 0), 3);
        Bounds.Way star = Towns.laid("p0;p0;p0;p0;p0;p0;f0,5;f1,5;f2,5;f3,5;f4,5;f5,4;");
        b.asks(6, "no FRIENDS", kinds, x -> x.person(0, 1), 0);
        b.asks(6, "all five others FRIENDS", star, x -> x.person(5, 1), 0b011111);
        b.asks(6, "one FRIEND, the last one", star, x -> x.person(0, 1), 0b100000);
        b.asks(6, "no TALE that it KNOWS", Towns.laid(Towns.NINE), x -> x.person(1, 2), 0);
        b.asks(6, "all nine TALES that it KNOWS", Towns.laid(Towns.NINE), x -> x.person(0, 2), 0b111111111);
        b.asks(6, "it KNOWS the HUSHED one, too", Towns::lively, x -> x.person(4, 2), 0b100);
        b.asks(6, "nobody SITS", Towns::stood, x -> x.person(0, 3), 0);
        b.asks(6, "the first one SITS", Towns::lively, x -> x.person(0, 3), 1);
        b.asks(6, "the other one SITS", Towns::lively, x -> x.person(1, 3), 1);
        b.asks(6, "none of the two SITS not", Towns::lively, x -> x.person(2, 3), 0);
        b.run(6, "it KNOWS a TALE from its last MINUTE on, not ahead", due -> {
            ChurnTalk x = Due.laid(Towns.NINE);
            x.sit(0, 1);
            x.pass(8);
            due.is("behind 8 of 9 MINUTES", x.person(1, 2), 0);
            x.pass(1);
            due.is("behind all 9", x.person(1, 2), 0b1);
        });
    }

    private static void taleNumbers() {
        Bounds b = BOUNDS;
        Bounds.Way six = Towns.laid(Towns.SIX);
        b.ends(7, "tale(t, 1), nine TALES", six, (x, t) -> x.tale(t, 1), 0, 1, 8, 20);
        b.ends(7, "tale(t, 2), three TALES", Towns::lively, (x, t) -> x.tale(t, 2), 0, 2, 2, 9);
        b.ends(7, "tale(t, 3), three TALES", Towns::lively, (x, t) -> x.tale(t, 3), 0, 0, 2, 1);
        b.ends(7, "tale(t, 4), one TALE", Towns.laid("p0;p0;t0,3,4,1;"), (x, t) -> x.tale(t, 4), 0, 0b10, 0, 0b10);
        b.ends(7, "tale(2, what)", Towns::lively, (x, what) -> x.tale(2, what), 0, 0, 4, 0b10010);
        b.ends(7, "tale(0, what)", Towns::lively, (x, what) -> x.tale(0, what), 0, 2, 4, 0b00011);
        b.refuses(7, "no TALES: not the first either", Towns.laid("p0;p0;f0,1;"), x -> x.tale(0, 0), BAD);
        b.refuses(7, "tale(32, 1): no wrap-around by bits", six, x -> x.tale(32, 1), BAD);
        b.refuses(7, "tale(-1, -1)", Towns::lively, x -> x.tale(-1, -1), BAD);
    }

    private static void taleAnswers() {
        Bounds b = BOUNDS;
        Bounds.Way six = Towns.laid("p0;p0;p0;p0;p0;p0;t0,1,1,12345;t5,20,9,0;");
        b.asks(7, "of the first PERSON", six, x -> x.tale(0, 0), 0);
        b.asks(7, "of the last PERSON", six, x -> x.tale(1, 0), 5);
        b.asks(7, "ILL by 1, the least", six, x -> x.tale(0, 1), 1);
        b.asks(7, "ILL by 20, the most", six, x -> x.tale(1, 1), 20);
        b.asks(7, "one MINUTE, the least", six, x -> x.tale(0, 2), 1);
        b.asks(7, "nine MINUTES, the most", six, x -> x.tale(1, 2), 9);
        b.asks(7, "not HUSHED", six, x -> x.tale(0, 3), 0);
        b.asks(7, "all but one KNOW it", six, x -> x.tale(0, 4), 0b111110);
        b.asks(7, "one alone KNOWS it", six, x -> x.tale(1, 4), 0b000001);
        b.run(7, "1 if HUSHED, the first and the last of nine", due -> {
            ChurnTalk x = Due.laid(Towns.NINE);
            x.hush(0);
            x.hush(8);
            due.is("tale(0, 3)", x.tale(0, 3), 1);
            due.is("tale(1, 3)", x.tale(1, 3), 0);
            due.is("tale(7, 3)", x.tale(7, 3), 0);
            due.is("tale(8, 3)", x.tale(8, 3), 1);
        });
        b.run(7, "who hears it KNOWS it from its last MINUTE on", due -> {
            ChurnTalk x = Due.laid(Towns.NINE);
            x.sit(0, 1);
            x.pass(8);
            due.is("behind 8 of 9 MINUTES", x.tale(0, 4), 0b001);
            x.pass(1);
            due.is("behind all 9", x.tale(0, 4), 0b011);
        });
    }

    /** 1 sat down with 0, who has told the first of nine TALES. */
    private static ChurnTalk told() {
        ChurnTalk x = Due.laid(Towns.NINE);
        x.sit(1, 0);
        x.pass(9);
        return x;
    }

    private static void churnNumbers() {
        Bounds b = BOUNDS;
        b.ends(8, "churn(what), two sitting", TownBoundsTest::told, (x, what) -> x.churn(what), 0, 1, 5, 0b1);
        b.ends(8, "churn(what), nobody sitting", Towns::stood, (x, what) -> x.churn(what), 0, NONE, 5, NONE);
    }

    private static void churnOfNobody() {
        for (int what = 0; what <= 5; what++) {
            int asked = what;
            BOUNDS.asks(8, "NONE of " + what + ", nobody has sat yet", NEW, x -> x.churn(asked), NONE);
            BOUNDS.asks(8, "NONE of " + what + ", they have stood up", Towns::stood, x -> x.churn(asked), NONE);
        }
    }

    /** Who sits, told by churn(0) to churn(5). */
    private static void are(Due due, String when, ChurnTalk x, int... answers) {
        for (int what = 0; what < answers.length; what++) {
            due.is(when + ": churn(" + what + ")", x.churn(what), answers[what]);
        }
    }

    private static void churnOfTold() {
        Bounds b = BOUNDS;
        b.asks(8, "a TALE being told takes one MINUTE more", Towns::lively, x -> x.churn(4), 1);
        b.run(8, "just sat down: no TALE, 0 MINUTES, nothing TOLD", due -> {
            ChurnTalk x = Due.laid(Towns.NINE);
            x.sit(1, 0);
            are(due, "sat", x, 1, 0, 1, NONE, 0, 0);
        });
        b.run(8, "nine MINUTES of a TALE: 8 to go behind the first, 0 behind the last", due -> {
            ChurnTalk x = Due.laid(Towns.NINE);
            x.sit(0, 1);
            for (int left = 8; left >= 1; left--) {
                x.pass(1);
                are(due, left + " to go", x, 0, 1, 0, 0, left, 0);
            }
            x.pass(1);
            are(due, "told", x, 0, 1, 1, NONE, 0, 0b1);
        });
        b.run(8, "a TALE of one MINUTE is never seen being told", due -> {
            ChurnTalk x = Due.laid("p0;p0;p0;f0,1;t2,5,1,0;");
            x.sit(0, 1);
            x.pass(1);
            are(due, "told", x, 0, 1, 1, NONE, 0, 0b1);
        });
        b.run(8, "all nine TALES TOLD, the last one MINUTE by MINUTE", due -> {
            ChurnTalk x = Due.laid(Towns.NINE);
            x.sit(0, 1);
            x.pass(60);
            x.pass(20);
            are(due, "a MINUTE ahead of the end", x, 0, 1, 0, 8, 1, 0b011111111);
            x.pass(1);
            are(due, "all told", x, 0, 1, 1, NONE, 0, 0b111111111);
            x.pass(1);
            are(due, "in silence", x, 0, 1, 1, NONE, 0, 0b111111111);
        });
        b.run(8, "they sit anew, a TALE not told to its end: 0 MINUTES, none is told", due -> {
            ChurnTalk x = Due.laid(Towns.NINE);
            x.sit(0, 1);
            x.pass(5);
            x.stand();
            x.sit(0, 1);
            are(due, "anew", x, 0, 1, 0, NONE, 0, 0);
        });
        b.run(8, "they sit anew: nothing TOLD yet", due -> {
            ChurnTalk x = Due.laid(Towns.NINE);
            x.sit(0, 1);
            x.pass(9);
            x.stand();
            x.sit(0, 1);
            are(due, "anew", x, 0, 1, 0, NONE, 0, 0);
        });
    }
}
