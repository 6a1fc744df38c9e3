/** What the document says of each promise, 1 to 28, and what it does not promise. */
final class SaysPromises {
    private static final int BAD = -1, NO = -2, FULL = -3, NONE = -4;
    private static final int[] FAR = {Integer.MIN_VALUE, Integer.MAX_VALUE};

    private SaysPromises() {
    }

    static void read(Document d) {
        texts(d);
        looks(d);
        acts(d);
        undo(d);
        comes(d);
        twos(d);
        said(d);
        later(d);
        keeps(d);
        count(d);
        d.reads("## Not promised How the state is held inside the object is free, as are the speed of each call,"
                + " the text of toString and the behaviour of equals and hashCode. Use of one object from several"
                + " threads at once is not promised to be safe. Nothing is promised beyond the answers and state"
                + " changes described above, and nothing about an object after its 512th call.");
    }

    /** Each of these numbers is BAD, and so are those farthest out. */
    private static void bad(Due due, ChurnTalk x, Bounds.OpenCall call, int... numbers) {
        for (int number : numbers) {
            due.is("with " + number, call.on(x, number), BAD);
        }
        for (int number : FAR) {
            due.is("with " + number, call.on(x, number), BAD);
        }
    }

    private static void answers(Due due, ChurnTalk x, Bounds.OpenCall call, int... answers) {
        for (int what = 0; what < answers.length; what++) {
            due.is("with " + what, call.on(x, what), answers[what]);
        }
        bad(due, x, call, -1, answers.length);
    }

    private static void texts(Document d) {
        d.says(1, "## Promise 1: A new object `ChurnTalk()`: As told; THE TEXT is empty.", due -> {
            ChurnTalk x = new ChurnTalk();
            int[] counts = {6, 7, 7, 0, 0, 0, 9, 0, 0, 0};
            answers(due, x, (y, what) -> y.count(what), counts);
            due.is("nobody SITS", x.churn(0), NONE);
            due.is("wipe()", x.wipe(), 0);
        });
        d.says(2, "## Promise 2: write `int write(int letter)`: A letter (32 to 126, as in ASCII) comes behind"
                + " THE TEXT: how long it is. BAD; FULL.", due -> {
            ChurnTalk x = new ChurnTalk();
            String text = "p3;p0;";
            for (int k = 0; k < text.length(); k++) {
                due.is("letter " + k, x.write(text.charAt(k)), k + 1);
            }
            due.is("what was written", x.lay(), 2);
            due.is("behind what there was", x.person(0, 0), 3);
            due.is("the first", x.write(32), 7);
            due.is("the last", x.write(126), 8);
            bad(due, x, (y, letter) -> y.write(letter), 31, 127, 10, 0, -1, 256 + 'p');
            for (int size = 9; size <= 200; size++) {
                due.is("letter " + size, x.write('p'), size);
            }
            due.is("one more", x.write('p'), FULL);
            due.is("how long it is", x.count(9), 200);
        });
        d.says(3, "## Promise 3: wipe `int wipe()`: THE TEXT is empty: how long it was.", due -> {
            ChurnTalk x = Due.laid(Towns.LITTLE);
            due.is("how long it was", x.wipe(), 45);
            due.is("empty", x.count(9), 0);
            due.is("no FAULT any more", x.fault(), NONE);
            due.is("once more", x.wipe(), 0);
            due.is("the town stays", x.count(0), 4);
        });
        d.says(4, "## Promise 4: fault `int fault()`: FAULT. NONE.", due -> {
            due.is("FAULT", Due.written("p0;p5;").fault(), 3);
            due.is("none", Due.written("p0;p3;").fault(), NONE);
            due.is("none in an empty TEXT", new ChurnTalk().fault(), NONE);
        });
        d.says(5, "## Promise 5: lay `int lay()`: LAID: how many PERSONS; MINUTE 0, no BUTTER, nobody SITS,"
                + " nothing HUSHED, UNDONE, KEPT; THE TEXT stays. NO.", due -> {
            ChurnTalk x = Towns.lively();
            due.is("how many PERSONS", x.lay(), 5);
            int[] counts = {5, 3, 4, 0, 0, 0, 5, 0, 0, Towns.FIVE.length()};
            answers(due, x, (y, what) -> y.count(what), counts);
            due.is("nobody SITS", x.churn(0), NONE);
            due.is("not HUSHED", x.tale(2, 3), 0);
            due.is("nothing is UNDONE", x.undo(), NO);
            due.is("nothing is KEPT", x.back(), NO);
            x.write('x');
            due.is("a FAULT", x.lay(), NO);
            due.same("as laid for the first time", Trace.ofNow(x), Trace.ofNow(Due.laid(Towns.FIVE)));
            ChurnTalk y = new ChurnTalk();
            for (int q : new int[] {1, 0, 2}) {
                Due.rewrite(y, "p0;p0;p0;f0,1;t" + q + ",9,1," + (q + 1) % 3 + ";");
                due.is("another town", y.lay(), 3);
                due.is("only its own TALE is of " + q, y.sit(0, 1), q == 2 ? 0b1 : 0);
                y.stand();
            }
        });
    }

    private static void looks(Document d) {
        d.says(6, "## Promise 6: person `int person(int p, int what)`: Of a PERSON: KIND (what = 0), FRIENDS (1; bits),"
                + " TALES that it KNOWS (2; bits, HUSHED ones, too), 1 if it SITS (3). BAD.", due -> {
            ChurnTalk x = Towns.lively();
            answers(due, x, (y, what) -> y.person(1, what), 2, 0b00101, 0b111, 1);
            answers(due, x, (y, what) -> y.person(4, what), 1, 0b00001, 0b100, 0);
            due.is("it KNOWS the HUSHED one", x.tale(2, 3), 1);
            bad(due, x, (y, p) -> y.person(p, 0), -1, 5);
        });
        d.says(7, "## Promise 7: tale `int tale(int t, int what)`: Of a TALE: Q (what = 0), I (1), M (2), 1"
                + " if HUSHED (3),"
                + " who KNOWS it (4; bits). BAD.", due -> {
            ChurnTalk x = Towns.lively();
            answers(due, x, (y, what) -> y.tale(2, what), 0, 20, 9, 1, 0b10010);
            answers(due, x, (y, what) -> y.tale(1, what), 3, 7, 3, 0, 0b00010);
            bad(due, x, (y, t) -> y.tale(t, 0), -1, 3);
        });
        d.says(8, "## Promise 8: churn `int churn(int what)`: Who SITS: the first one (what = 0), the other (1),"
                + " who is to tell, or tells (2), the TALE that is being told (3), MINUTES that it still takes"
                + " (4; none is told: 0), TALES that were TOLD (5; bits). NONE: nobody SITS, of (3) no"
                + " TALE; BAD.", due -> {
            ChurnTalk x = Due.laid(Towns.FIVE);
            answers(due, x, (y, what) -> y.churn(what), NONE, NONE, NONE, NONE, NONE, NONE);
            x.sit(1, 0);
            answers(due, x, (y, what) -> y.churn(what), 1, 0, 1, NONE, 0, 0b000);
            x.pass(1);
            answers(due, x, (y, what) -> y.churn(what), 1, 0, 1, 0, 1, 0b000);
            x.pass(1);
            answers(due, x, (y, what) -> y.churn(what), 1, 0, 0, NONE, 0, 0b001);
            x.pass(1);
            answers(due, x, (y, what) -> y.churn(what), 1, 0, 1, 1, 2, 0b001);
            x.pass(3);
            answers(due, x, (y, what) -> y.churn(what), 1, 0, 0, NONE, 0, 0b011);
            x.stand();
            answers(due, x, (y, what) -> y.churn(what), NONE, NONE, NONE, NONE, NONE, NONE);
        });
    }

    private static void acts(Document d) {
        d.says(9, "## Promise 9: sit `int sit(int a, int b)`: Two SIT: TALES (bits) that the first one CAN TELL."
                + " BAD (alike, too); NO: somebody SITS; no FRIENDS.", due -> {
            ChurnTalk x = Due.laid(Towns.FIVE);
            bad(due, x, (y, p) -> y.sit(p, 1), -1, 5, 1);
            bad(due, x, (y, p) -> y.sit(1, p), -1, 5, 1);
            due.is("no FRIENDS", x.sit(0, 2), NO);
            due.is("FRIENDS", x.sit(1, 2), 0b110);
            due.is("somebody SITS", x.sit(0, 4), NO);
            due.is("the first one", x.churn(0), 1);
        });
        d.says(10, "## Promise 10: stand `int stand()`: They STAND UP: how many TALES were TOLD. NO: nobody"
                + " SITS.", due -> {
            ChurnTalk x = Due.laid(Towns.FIVE);
            due.is("nobody SITS", x.stand(), NO);
            int[] told = {0, 0, 1, 1, 1, 2, 2};
            for (int n = 0; n < told.length; n++) {
                x.sit(0, 1);
                if (n > 0) {
                    x.pass(n);
                }
                due.is("behind " + n + " MINUTES", x.stand(), told[n]);
                x.lay();
            }
        });
        d.says(11, "## Promise 11: pass `int pass(int n)`: n MINUTES (1 to 60) go by: how much BUTTER there"
                + " is. BAD.", due -> {
            ChurnTalk x = Due.laid(Towns.FIVE);
            x.sit(0, 1);
            due.is("one", x.pass(1), 5);
            due.is("three", x.pass(3), 16);
            bad(due, x, (y, n) -> y.pass(n), 0, 61, -1);
            due.is("60", x.pass(60), 19);
            due.is("they went by", x.count(3), 64);
        });
        d.says(12, "## Promise 12: hush `int hush(int t)`: A TALE is HUSHED: how many are not. BAD; NO: it is;"
                + " it is being told.", due -> {
            ChurnTalk x = Due.laid(Towns.FIVE);
            x.sit(0, 1);
            x.pass(1);
            bad(due, x, (y, t) -> y.hush(t), -1, 3);
            due.is("it is being told", x.hush(0), NO);
            due.is("two are not", x.hush(1), 2);
            due.is("it is", x.hush(1), NO);
            due.is("one is not", x.hush(2), 1);
            x.pass(1);
            due.is("none is not", x.hush(0), 0);
        });
    }

    private static void undo(Document d) {
        d.says(13, "## Promise 13: undo `int undo()`: UNDONE: how many more can be. NO.", due -> {
            ChurnTalk x = Towns.lively();
            for (int more = 3; more >= 0; more--) {
                due.is("undo()", x.undo(), more);
                due.is("as many", x.count(7), more);
            }
            due.is("nothing is left", x.undo(), NO);
            due.same("as laid", Trace.ofNow(x), Trace.ofNow(Due.laid(Towns.FIVE)));
        });
    }

    private static void comes(Document d) {
        d.says(14, "## Promise 14: comes `int comes(int h)`: COMES. NONE; BAD.", due -> {
            ChurnTalk x = Towns.lively();
            int[][] rows = {{0, 0}, {5, 0}, {6, 1}, {10, 1}, {11, 2}, {19, 4}, {20, NONE}, {999, NONE}};
            for (int[] row : rows) {
                due.is("comes(" + row[0] + ")", x.comes(row[0]), row[1]);
            }
            bad(due, x, (y, h) -> y.comes(h), -1, 1000);
        });
        d.says(15, "## Promise 15: quiet `int quiet()`: QUIET. NONE; NO: nobody SITS.", due -> {
            due.is("behind four", Towns.lively().quiet(), 4);
            due.is("nobody SITS", Towns.stood().quiet(), NO);
        });
        d.says(16, "## Promise 16: brings `int brings(int a, int b, int n)`: BRINGS. BAD (alike, too);"
                + " NO: no FRIENDS.", due -> {
            ChurnTalk x = Due.laid(Towns.FIVE);
            due.is("0 and 1", x.brings(0, 1, 60), 19);
            due.is("1 and 0", x.brings(1, 0, 60), 13);
            due.is("2 and 1", x.brings(2, 1, 60), 99);
            due.is("no FRIENDS", x.brings(0, 2, 60), NO);
            bad(due, x, (y, p) -> y.brings(p, 1, 60), -1, 5, 1);
            bad(due, x, (y, p) -> y.brings(1, p, 60), -1, 5, 1);
            bad(due, x, (y, n) -> y.brings(0, 1, n), 0, 61, -1);
        });
        d.says(17, "## Promise 17: best `int best(int n, int what)`: BEST: who (what = 0), how much (1)."
                + " NONE; BAD.", due -> {
            ChurnTalk x = Due.laid(Towns.FIVE);
            answers(due, x, (y, what) -> y.best(60, what), 23, 600);
            bad(due, x, (y, n) -> y.best(n, 0), 0, 61);
            answers(due, Due.laid("p3;p3;"), (y, what) -> y.best(60, what), NONE, NONE);
        });
    }

    private static void twos(Document d) {
        d.says(18, "## Promise 18: twos `int twos(int n, int p)`: TWOS: how much (p = -1), with whom a PERSON SITS"
                + " (NONE: aside). BAD.", due -> {
            ChurnTalk x = Due.laid(Towns.FIVE);
            int[] mates = {1, 0, 3, 2, NONE};
            due.is("how much", x.twos(60, -1), 619);
            for (int p = 0; p < mates.length; p++) {
                due.is("with whom " + p, x.twos(60, p), mates[p]);
            }
            bad(due, x, (y, p) -> y.twos(60, p), -2, 5);
            bad(due, x, (y, n) -> y.twos(n, 0), 0, 61);
            bad(due, x, (y, n) -> y.twos(n, -1), 0, 61);
        });
        d.says(19, "## Promise 19: leave `int leave(int n)`: LEAVE. NONE; BAD.", due -> {
            ChurnTalk x = Due.laid(Towns.ROW);
            due.is("1 and 2", x.leave(60), 12);
            due.is("none", Due.laid(Towns.FIVE).leave(60), NONE);
            bad(due, x, (y, n) -> y.leave(n), 0, 61);
        });
        d.says(20, "## Promise 20: hears `int hears(int t, int p)`: HEARS. NONE; BAD.", due -> {
            ChurnTalk x = Due.laid(Towns.FIVE);
            int[] sittings = {1, 0, 1, NONE, 2};
            for (int p = 0; p < sittings.length; p++) {
                due.is("hears(1, " + p + ")", x.hears(1, p), sittings[p]);
            }
            bad(due, x, (y, t) -> y.hears(t, 0), -1, 3);
            bad(due, x, (y, p) -> y.hears(0, p), -1, 5);
        });
        d.says(21, "## Promise 21: cost `int cost(int n, int what)`: COST: which (what = 0), how much (1)."
                + " NONE; BAD.", due -> {
            ChurnTalk x = Due.laid(Towns.ROW);
            answers(due, x, (y, what) -> y.cost(60, what), 0, 9);
            bad(due, x, (y, n) -> y.cost(n, 0), 0, 61);
            answers(due, Due.laid("p3;p3;f0,1;"), (y, what) -> y.cost(60, what), NONE, NONE);
        });
    }

    private static void said(Document d) {
        d.says(22, "## Promise 22: said `int said(int a, int b, int y, int what)`: SAID: how many (what = 0),"
                + " the lowest (1; bits; NONE). BAD (alike, too).", due -> {
            ChurnTalk x = Due.laid(Towns.FIVE);
            answers(due, x, (y, what) -> y.said(1, 2, 27, what), 1, 0b110);
            answers(due, x, (y, what) -> y.said(1, 3, 25, what), 1, 0b101);
            answers(due, x, (y, what) -> y.said(1, 0, 20, what), 0, NONE);
            bad(due, x, (y, p) -> y.said(p, 1, 0, 0), -1, 5, 1);
            bad(due, x, (y, p) -> y.said(1, p, 0, 0), -1, 5, 1);
            bad(due, x, (y, sum) -> y.said(1, 0, sum, 0), -1, 181);
        });
        d.says(23, "## Promise 23: who `int who(int n, int y, int what)`: WHO: how many (what = 0), the"
                + " first (1; NONE)."
                + " BAD.", due -> {
            ChurnTalk x = Due.laid(Towns.FIVE);
            answers(due, x, (y, what) -> y.who(60, 99, what), 2, 12);
            answers(due, x, (y, what) -> y.who(60, 13, what), 1, 10);
            answers(due, x, (y, what) -> y.who(60, 14, what), 0, NONE);
            bad(due, x, (y, n) -> y.who(n, 0, 0), 0, 61);
            bad(due, x, (y, butter) -> y.who(1, butter, 0), -1, 1000);
        });
    }

    private static void later(Document d) {
        d.says(24, "## Promise 24: held `int held(int a, int b, int n, int h, int x, int part)`: HELD:"
                + " above (part = 0),"
                + " below (1). BAD (alike, too); NO: no FRIENDS.", due -> {
            ChurnTalk x = Due.laid(Towns.FIVE);
            answers(due, x, (y, part) -> y.held(0, 1, 60, 19, 3, part), 49, 100);
            due.is("no FRIENDS", x.held(0, 2, 60, 19, 3, 0), NO);
            bad(due, x, (y, p) -> y.held(p, 1, 60, 19, 3, 0), -1, 5, 1);
            bad(due, x, (y, p) -> y.held(1, p, 60, 19, 3, 0), -1, 5, 1);
            bad(due, x, (y, n) -> y.held(0, 1, n, 19, 3, 0), 0, 61);
            bad(due, x, (y, h) -> y.held(0, 1, 60, h, 3, 0), -1, 1000);
            bad(due, x, (y, tenths) -> y.held(0, 1, 60, 19, tenths, 0), -1, 11);
        });
        d.says(25, "## Promise 25: day `int day(int z, int n, int what)`: A DAY: BUTTER (what = 0), TALES"
                + " (1). BAD.", due -> {
            // By k = 1 of five 0 and 3 are drawn, who are no FRIENDS; of three 1 and 0 are.
            ChurnTalk x = Due.laid("p0;p0;p0;f0,1;t2,9,2,0;t2,5,1,1;");
            answers(due, x, (y, what) -> y.day(0, 2, what), 5, 3);
            answers(due, Due.laid(Towns.FIVE), (y, what) -> y.day(0, 2, what), 0, 5);
            bad(due, x, (y, z) -> y.day(z, 1, 0), -1, 10000);
            bad(due, x, (y, n) -> y.day(0, n, 0), 0, 61);
        });
    }

    private static void keeps(Document d) {
        d.says(26, "## Promise 26: keep `int keep()`: KEPT: how many. FULL.", due -> {
            ChurnTalk x = Due.laid(Towns.FIVE);
            for (int round = 0; round < 3; round++) {
                due.is("one", x.keep(), 1);
                due.is("two", x.keep(), 2);
                due.is("no more", x.keep(), FULL);
                x.back();
                x.back();
            }
        });
        d.says(27, "## Promise 27: back `int back()`: As KEPT last (it is KEPT no more then): how many are left;"
                + " nothing is UNDONE then. NO.", due -> {
            ChurnTalk x = Due.laid(Towns.FIVE);
            x.pass(1);
            x.keep();
            x.pass(2);
            x.keep();
            x.pass(3);
            due.is("one is left", x.back(), 1);
            due.is("as KEPT last", x.count(3), 3);
            due.is("nothing is UNDONE", x.undo(), NO);
            due.is("none is left", x.back(), 0);
            due.is("as KEPT ahead of it", x.count(3), 1);
            due.is("nothing is UNDONE", x.count(7), 0);
            due.is("nothing is KEPT any more", x.back(), NO);
            due.is("all stays", x.count(3), 1);
        });
    }

    private static void count(Document d) {
        d.says(28, "## Promise 28: count `int count(int what)`: How many: 0 PERSONS, 1 TALES, 2 pairs of FRIENDS,"
                + " 3 MINUTES gone by, 4 BUTTER, 5 TALES HUSHED, 6 TALES that all KNOW together, 7 that can be UNDONE,"
                + " 8 KEPT, 9 letters of THE TEXT. BAD.", due -> {
            answers(due, Towns.lively(), (y, what) -> y.count(what), 5, 3, 4, 2, 5, 1, 5, 4, 1, 65);
            // In four more MINUTES 1 tells tale 1 to 0, and 0 and 1 are both told all they can be.
            ChurnTalk x = Towns.lively();
            x.pass(7);
            x.keep();
            x.write('p');
            answers(due, x, (y, what) -> y.count(what), 5, 3, 4, 9, 19, 1, 6, 5, 2, 66);
        });
    }
}
