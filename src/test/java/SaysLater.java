import java.math.BigInteger;

/** What the document says in section 4: SAID, WHO, HELD, DAYS, KEPT; of BAD, NO, NONE, FULL; of groups. */
final class SaysLater {
    private static final int BAD = -1, NO = -2, FULL = -3, NONE = -4;

    private static final String TWO_YOUNG = "p3;p3;f0,1;";
    private static final String STRANGERS = "p3;p3;p3;t0,9,9,1;";
    /** In a MINUTE 01 bring 1 and 10 bring 9, in two MINUTES 10 either way. */
    private static final String UNLIKE = "p0;p0;p0;f0,1;t2,1,1,0;t2,9,1,1;";
    /** 0 can tell 1 ILL by 9 in two MINUTES, 1 can tell 0 ILL by 5 in two. */
    private static final String TWO_TALES = "p0;p0;p0;f0,1;t2,9,2,0;t2,5,2,1;";

    private SaysLater() {
    }

    static void read(Document d) {
        said(d);
        who(d);
        held(d);
        day(d);
        daySitting(d);
        dayStanding(d);
        dayDraws(d);
        dayAnswers(d);
        kept(d);
        refusals(d);
        order(d);
        groups(d);
    }

    private static ChurnTalk sat(String town) {
        ChurnTalk x = Due.laid(town);
        x.sit(0, 1);
        return x;
    }

    /** How many sets there are of just y, and the lowest. */
    private static void saidIs(Due due, ChurnTalk x, int y, int sets, int lowest) {
        due.is("said(0, 1, " + y + ", 0)", x.said(0, 1, y, 0), sets);
        due.is("said(0, 1, " + y + ", 1)", x.said(0, 1, y, 1), lowest);
    }

    private static void said(Document d) {
        d.says(22, "======== 4 SAID of two unlike PERSONS (FRIENDS or not) and y (0 to 180):", due -> {
            saidIs(due, Due.laid("p0;p0;p0;t2,3,1,0;"), 3, 1, 0b1);
            saidIs(due, Due.laid("p0;p0;p0;f0,1;t2,3,1,0;"), 3, 1, 0b1);
            ChurnTalk x = Due.laid("p0;p0;p0;" + "t2,20,1,0;".repeat(9));
            saidIs(due, x, 0, 1, 0);
            saidIs(due, x, 180, 1, 0b111111111);
            saidIs(due, x, -1, BAD, BAD);
            saidIs(due, x, 181, BAD, BAD);
            due.is("alike", x.said(0, 0, 20, 0), BAD);
        });
        d.says(22, "sets of TALES that the first one CAN TELL the other one (nothing TOLD yet),", due -> {
            // Of five TALES ILL by 3: of 1, HUSHED, not known by 0, known by both, known by 0.
            ChurnTalk x = Due.laid("p0;p0;p0;f0,1;t1,3,1,0;t2,3,1,0;t2,3,1,1;t2,3,1,01;t2,3,1,0;");
            x.hush(1);
            saidIs(due, x, 3, 2, 0b01000);
            saidIs(due, x, 6, 1, 0b11000);
            x.sit(0, 1);
            x.pass(1);
            due.is("TOLD since they SIT", x.churn(5), 0b01000);
            saidIs(due, x, 3, 2, 0b01000);
            x.pass(1);
            // By 1, who knew it ahead, 0 has heard TALE 2 now.
            saidIs(due, x, 3, 3, 0b00100);
            saidIs(due, Due.laid("p1;p0;p0;t2,3,1,0;"), 3, 0, NONE);
        });
        d.says(22, "whose I in sum are y: how many; the lowest as bits; none.", due -> {
            ChurnTalk x = Due.laid("p2;p0;p0;t2,1,9,0;t2,5,1,0;t2,4,1,0;t2,3,1,0;");
            saidIs(due, x, 4, 2, 0b0100);
            saidIs(due, x, 5, 2, 0b0010);
            saidIs(due, x, 8, 2, 0b1010);
            saidIs(due, x, 0, 1, 0);
            saidIs(due, x, 13, 1, 0b1111);
            saidIs(due, x, 2, 0, NONE);
            saidIs(due, x, 14, 0, NONE);
        });
    }

    private static void whoIs(Due due, ChurnTalk x, int n, int y, int twos, int first) {
        due.is("who(" + n + ", " + y + ", 0)", x.who(n, y, 0), twos);
        due.is("who(" + n + ", " + y + ", 1)", x.who(n, y, 1), first);
    }

    private static void who(Document d) {
        d.says(23, "WHO for n (1 to 60), y (0 to 999): of two FRIENDS in either order those who BRING just y"
                + " in n MINUTES:", due -> {
            ChurnTalk x = Due.laid(UNLIKE);
            whoIs(due, x, 1, 1, 1, 1);
            whoIs(due, x, 1, 9, 1, 10);
            whoIs(due, x, 2, 10, 2, 1);
            whoIs(due, x, 60, 11, 0, NONE);
            whoIs(due, x, 60, 9, 0, NONE);
            whoIs(due, x, 0, 0, BAD, BAD);
            whoIs(due, x, 61, 10, BAD, BAD);
            whoIs(due, x, 60, -1, BAD, BAD);
            whoIs(due, x, 60, 1000, BAD, BAD);
            whoIs(due, Due.laid("p0;p0;p0;f0,1;" + "t2,20,9,0;".repeat(5) + "t2,11,9,0;"), 60, 999, 2, 1);
        });
        d.says(23, "how many; the first (10 times the first one, and the other); none.", due -> {
            whoIs(due, Due.laid("p3;p3;p3;p3;f2,1;f3,1;"), 6, 60, 4, 12);
            whoIs(due, Due.laid("p0;p0;p0;p0;f3,2;"), 60, 0, 2, 23);
            whoIs(due, Due.laid("p0;p0;p0;p0;f3,2;t0,1,1,2;t0,2,1,3;"), 1, 2, 1, 32);
            whoIs(due, Due.laid(STRANGERS), 60, 0, 0, NONE);
        });
    }

    /** The chance that 0 and 1 bring h or more, above and below. */
    private static void heldIs(Due due, ChurnTalk x, int n, int h, int tenths, int above, int below) {
        String call = "held(0, 1, " + n + ", " + h + ", " + tenths;
        due.is(call + ", 0)", x.held(0, 1, n, h, tenths, 0), above);
        due.is(call + ", 1)", x.held(0, 1, n, h, tenths, 1), below);
    }

    private static void held(Document d) {
        d.says(24, "HELD: each TALE that is not HUSHED is held back by x (0 to 10) of ten, for itself (as"
                + " if HUSHED):", due -> {
            ChurnTalk x = Due.laid(TWO_TALES);
            heldIs(due, x, 60, 28, 3, 49, 100);
            heldIs(due, x, 60, 1, 3, 91, 100);
            heldIs(due, x, 60, 28, 0, 1, 1);
            heldIs(due, x, 60, 1, 10, 0, 1);
            heldIs(due, x, 60, 0, 10, 1, 1);
            heldIs(due, x, 60, 1, -1, BAD, BAD);
            heldIs(due, x, 60, 1, 11, BAD, BAD);
            x.hush(0);
            heldIs(due, x, 60, 10, 3, 7, 10);
            heldIs(due, x, 60, 11, 0, 0, 1);
            // Is the slow TALE held back, there are MINUTES for the other one.
            heldIs(due, Due.laid("p0;p0;p0;f0,1;t2,1,9,0;t2,20,9,0;"), 9, 180, 3, 21, 100);
        });
        d.says(24, "the chance that two FRIENDS, the first one being to tell, BRING h (0 to 999) or more"
                + " in n (1 to 60) MINUTES,", due -> {
            ChurnTalk x = Due.laid(UNLIKE);
            heldIs(due, x, 1, 1, 2, 24, 25);
            heldIs(due, x, 1, 9, 2, 4, 25);
            due.is("1 being to tell", x.held(1, 0, 1, 9, 2, 0), 4);
            due.is("1 being to tell", x.held(1, 0, 1, 9, 2, 1), 5);
            heldIs(due, x, 2, 10, 2, 16, 25);
            heldIs(due, x, 60, 11, 2, 0, 1);
            heldIs(due, x, 60, 999, 0, 0, 1);
            heldIs(due, Due.laid(TWO_YOUNG), 60, 600, 5, 1, 1);
            heldIs(due, Due.laid(TWO_YOUNG), 60, 601, 5, 0, 1);
            heldIs(due, x, 60, -1, 2, BAD, BAD);
            heldIs(due, x, 60, 1000, 2, BAD, BAD);
            heldIs(due, x, 0, 1, 2, BAD, BAD);
            heldIs(due, x, 61, 1, 2, BAD, BAD);
            due.is("no FRIENDS", x.held(0, 2, 1, 1, 2, 0), NO);
        });
        d.says(24, "in lowest terms.", due -> {
            ChurnTalk x = Due.laid(TWO_TALES);
            heldIs(due, x, 60, 18, 5, 1, 2);
            heldIs(due, x, 60, 1, 5, 3, 4);
            heldIs(due, x, 60, 18, 8, 1, 5);
            heldIs(due, x, 60, 28, 4, 9, 25);
            heldIs(due, x, 60, 28, 9, 1, 100);
            heldIs(due, x, 60, 29, 5, 0, 1);
            heldIs(due, x, 60, 0, 5, 1, 1);
        });
    }

    private static void day(Document d) {
        d.says(25, "A DAY by z (0 to 9999) of n (1 to 60) MINUTES from now on (nothing changes by it):", due -> {
            ChurnTalk x = Towns.lively();
            x.day(7, 60, 0);
            x.day(7, 60, 1);
            due.same("all", Trace.of(x), Trace.of(Towns.lively()));
            ChurnTalk y = Due.laid(TWO_YOUNG);
            due.is("z is 0", y.day(0, 1, 0), 0);
            due.is("z is 9999", y.day(9999, 1, 0), 10);
            due.is("z is -1", y.day(-1, 1, 0), BAD);
            due.is("z is 10000", y.day(10000, 1, 0), BAD);
            due.is("n is 0", y.day(0, 0, 0), BAD);
            due.is("n is 61", y.day(0, 61, 0), BAD);
            y.sit(0, 1);
            y.pass(5);
            due.is("from now on", y.day(1, 1, 0), 60);
        });
        // z = 0: by k = 0: 1; k = 1: 41487 (by 8: 5185, by 64: 648); k = 2: 10299 (modulo 8: 3).
        d.says(25, "ahead of the k-th (0 first),", due -> {
            ChurnTalk x = Due.laid(TWO_YOUNG);
            int[] butter = {0, 10, 20};
            for (int n = 1; n <= 3; n++) {
                due.is("a DAY of " + n, x.day(0, n, 0), butter[n - 1]);
            }
            x.pass(60);
            due.is("k is told from the DAY's first on", x.day(0, 1, 0), 0);
        });
    }

    private static void daySitting(Document d) {
        d.says(25, "if nobody SITS, PERSONS (DRAW by 8, cut) modulo as many as there are and"
                + " (DRAW by 64, cut) modulo as many SIT,", due -> {
            // Of three 5185 and 648 are 1 and 0: 1 is the first one, and to tell.
            due.is("1 and 0", Due.laid("p0;p0;p0;f0,1;t2,9,1,0;t2,4,1,1;").day(0, 2, 0), 4);
            // Of five they are 0 and 3, of six 1 and 0.
            due.is("of five", Due.laid("p3;p0;p0;p3;p0;f0,3;").day(0, 2, 0), 10);
            due.is("of six", Due.laid("p3;p3;p0;p0;p0;p0;f0,1;").day(0, 2, 0), 10);
            // z = 5, k = 0: 56728, modulo 8 0 (by 8: 7091, by 64: 886): of two 1 and 0.
            due.is("they are not asked to stand up at once", Due.laid(TWO_YOUNG).day(5, 1, 0), 10);
        });
        d.says(25, "if they can;", due -> {
            due.is("no FRIENDS", Due.laid("p3;p3;p3;f0,2;f1,2;").day(0, 2, 0), 0);
            due.is("FRIENDS", Due.laid("p3;p3;p3;f0,1;").day(0, 2, 0), 10);
            due.is("alike", Due.laid(TWO_YOUNG).day(0, 1, 0), 0);
            due.is("one alone", Due.laid("p3;").day(7, 60, 0), 0);
        });
    }

    private static void dayStanding(Document d) {
        d.says(25, "if somebody does: if DRAW modulo 8 is 0, they STAND UP,", due -> {
            due.is("ahead of the MINUTE", sat(TWO_YOUNG).day(5, 1, 0), 0);
            due.is("by 3 they go on", sat(TWO_YOUNG).day(1, 1, 0), 10);
            due.is("by 7 they go on", sat(TWO_YOUNG).day(9999, 1, 0), 10);
            ChurnTalk x = sat(TWO_TALES);
            x.pass(1);
            due.is("the TALE was not TOLD", x.day(5, 1, 1), 2);
            due.is("nor goes on", x.day(5, 1, 0), 9);
        });
        // z = 0, k = 0: 1 (modulo 8: 1; by 8: 0). z = 7, k = 0: 58977 (1; 7372). z = 8: 48233 (1; 6029).
        d.says(25, "if 1, and there is a TALE, TALE (DRAW by 8, cut) modulo as many is HUSHED,", due -> {
            due.is("tale 0: 1 tells its own", sat(TWO_TALES).day(0, 1, 0), 5);
            due.is("tale 7372 modulo 2", sat(TWO_TALES).day(7, 1, 0), 5);
            due.is("tale 6029 modulo 2", sat("p0;p0;p0;f0,1;t2,9,1,1;t2,5,1,0;").day(8, 1, 0), 9);
            due.is("tale 7372 modulo 3", sat("p0;p0;p0;f0,1;t2,9,1,1;t2,5,1,0;t2,7,1,0;").day(7, 1, 0), 7);
            due.is("tale 0 modulo 1", sat("p0;p0;p0;f0,1;t2,9,2,0;").day(0, 1, 0), 0);
            due.is("no TALE", sat(TWO_YOUNG).day(0, 1, 0), 10);
        });
        d.says(25, "if it can be;", due -> {
            ChurnTalk x = sat(TWO_TALES);
            x.pass(1);
            due.is("tale 0 is being told", x.day(0, 1, 0), 18);
            due.is("tale 0 is HUSHED", Towns.hushedAndSat().day(0, 1, 0), 5);
            // z = 69: k = 0: 46465 (1), k = 1: 40120 (0), k = 2: 26622 (by 8: 3327, by 64: 415: 0, 1).
            ChurnTalk y = sat("p0;p0;p0;f0,1;t2,9,2,0;");
            y.pass(1);
            due.is("not HUSHED, it is told to the next who sit", y.day(69, 3, 0), 27);
        });
    }

    /** DRAW as the document tells it. */
    private static int draw(int z, int k) {
        BigInteger x = BigInteger.valueOf(7919).multiply(BigInteger.valueOf(z))
                .add(BigInteger.valueOf(6151).multiply(BigInteger.valueOf(k))).add(BigInteger.ONE);
        return x.multiply(x).mod(BigInteger.valueOf(65521)).intValue();
    }

    /** Two YOUNG ones without TALES: 10 for each MINUTE in which they sit. */
    private static int silentDay(int z, int n) {
        int minutes = 0;
        boolean sits = false;
        for (int k = 0; k < n; k++) {
            int draw = draw(z, k);
            sits = sits ? draw % 8 != 0 : draw / 8 % 2 != draw / 64 % 2;
            minutes += sits ? 1 : 0;
        }
        return 10 * minutes;
    }

    private static void dayDraws(Document d) {
        d.says(25, "DRAW being (x times x) modulo 65521, x 7919 z, 6151 k and 1 together:", due -> {
            due.is("by hand: 6152 times 6152", draw(0, 1), 37847104 % 65521);
            due.is("by hand: 7920 times 7920", draw(1, 0), 62726400 % 65521);
            ChurnTalk x = Due.laid(TWO_YOUNG);
            for (int z = 0; z <= 9999; z += 33) {
                due.is("day(" + z + ", 1, 0)", x.day(z, 1, 0), silentDay(z, 1));
            }
            ChurnTalk y = Due.laid(TWO_YOUNG);
            for (int z = 9999; z >= 0; z -= 66) {
                int n = 1 + z % 60;
                due.is("day(" + z + ", " + n + ", 0)", y.day(z, n, 0), silentDay(z, n));
                due.is("day(" + z + ", 60, 0)", y.day(z, 60, 0), silentDay(z, 60));
            }
        });
    }

    private static void dayAnswers(Document d) {
        // z = 0: 1 and 0 sit from k = 1 on: 1 tells for two MINUTES, then 0 does, and nobody stands up.
        d.says(25, "how much BUTTER there is then;", due -> {
            int[] butter = {0, 5, 10, 19};
            ChurnTalk x = Due.laid(TWO_TALES);
            for (int n = 1; n <= butter.length; n++) {
                due.is("behind " + n, x.day(0, n, 0), butter[n - 1]);
            }
            ChurnTalk y = sat(TWO_YOUNG);
            y.pass(60);
            y.stand();
            due.is("what there was counts", y.day(0, 2, 0), 610);
        });
        d.says(25, "how many TALES all KNOW together (each counted for each who KNOWS it).", due -> {
            int[] tales = {2, 2, 3, 3};
            ChurnTalk x = Due.laid(TWO_TALES);
            for (int n = 1; n <= tales.length; n++) {
                due.is("behind " + n, x.day(0, n, 1), tales[n - 1]);
            }
            ChurnTalk y = Due.laid("p0;p0;p0;p0;t3,1,1,012;t2,1,1,013;t0,1,1,1;");
            y.hush(0);
            due.is("each for each, HUSHED, too", y.day(0, 1, 1), 3 + 3 + 1);
        });
    }

    private static void kept(Document d) {
        d.says(26, "KEPT is all as it stands, but THE TEXT", due -> {
            ChurnTalk x = sat(TWO_TALES);
            x.hush(1);
            x.pass(1);
            ChurnTalk y = sat(TWO_TALES);
            y.hush(1);
            y.pass(1);
            x.keep();
            x.pass(60);
            x.stand();
            x.hush(0);
            x.sit(1, 0);
            x.write('p');
            due.is("back()", x.back(), 0);
            due.same("what stands", Trace.ofNow(x), Trace.ofNow(y));
        });
        d.says(27, "(that stays by back(), behind which nothing can be UNDONE):", due -> {
            ChurnTalk x = sat(TWO_TALES);
            x.keep();
            x.wipe();
            x.write('p');
            x.pass(1);
            due.is("back()", x.back(), 0);
            due.is("the letters", x.count(9), 1);
            due.is("fault()", x.fault(), 0);
            due.is("not what was done behind keep()", x.count(7), 0);
            due.is("nor what was done ahead of it", x.undo(), NO);
        });
        d.says(26, "2 at most.", due -> {
            ChurnTalk x = Due.laid(TWO_TALES);
            due.is("one", x.keep(), 1);
            due.is("two", x.keep(), 2);
            due.is("three", x.keep(), FULL);
        });
    }

    private static void refusals(Document d) {
        d.says(6, "BAD: a number is none that is told (PERSONS, TALES: such as there are).", due -> {
            ChurnTalk x = Towns.lively();
            int[] answers = {x.write(31), x.person(5, 0), x.tale(3, 0), x.churn(6), x.sit(5, 0), x.pass(61),
                x.hush(3), x.comes(1000), x.brings(5, 0, 1), x.best(61, 0), x.twos(1, 5), x.leave(61),
                x.hears(3, 0), x.hears(0, 5), x.cost(61, 0), x.said(5, 0, 0, 0), x.who(61, 0, 0),
                x.held(5, 0, 1, 0, 0, 0), x.day(10000, 1, 0), x.count(10)};
            for (int k = 0; k < answers.length; k++) {
                due.is("call " + k, answers[k], BAD);
            }
            ChurnTalk six = new ChurnTalk();
            due.is("such as there are: person 5", six.person(5, 0), 0);
            due.is("such as there are: tale 6", six.tale(6, 1), 8);
        });
        d.says(9, "NO: not as things stand.", due -> {
            ChurnTalk x = new ChurnTalk();
            int[] answers = {x.lay(), x.sit(0, 3), x.stand(), x.undo(), x.quiet(), x.brings(0, 3, 1),
                x.held(0, 3, 1, 0, 0, 0), x.back()};
            for (int k = 0; k < answers.length; k++) {
                due.is("call " + k, answers[k], NO);
            }
            x.sit(0, 1);
            x.pass(1);
            due.is("sit(0, 1)", x.sit(0, 1), NO);
            due.is("hush(0)", x.hush(0), NO);
        });
        d.says(14, "NONE: there is none.", due -> {
            ChurnTalk x = Due.laid("p0;p0;");
            int[] answers = {x.fault(), x.churn(0), x.comes(1), x.best(1, 0), x.twos(1, 0), x.leave(1),
                x.cost(1, 0), x.said(0, 1, 1, 1), x.who(1, 0, 1)};
            for (int k = 0; k < answers.length; k++) {
                due.is("call " + k, answers[k], NONE);
            }
            due.is("hears", Due.laid("p0;p0;t0,1,1,1;").hears(0, 0), NONE);
        });
        d.says(2, "FULL.", due -> {
            ChurnTalk x = Due.written("p".repeat(200));
            due.is("200 letters", x.write('p'), FULL);
            x.keep();
            x.keep();
            due.is("two KEPT", x.keep(), FULL);
        });
    }

    private static void order(Document d) {
        d.says(9, "Of several the first in this order, whatever the order at a call;", due -> {
            ChurnTalk x = Towns.lively();
            due.is("somebody SITS, and alike", x.sit(1, 1), BAD);
            due.is("somebody SITS, and no such PERSON", x.sit(0, 5), BAD);
            due.is("no FRIENDS, and 61 MINUTES", x.brings(0, 2, 61), BAD);
            due.is("no FRIENDS, and no such part", x.held(0, 2, 1, 0, 0, 2), BAD);
            ChurnTalk y = Due.laid("p0;p0;");
            due.is("nobody SITS, and no such what", y.churn(6), BAD);
            due.is("no BUTTER ever, and 1000", y.comes(1000), BAD);
            due.is("no FRIENDS, and no such what", y.best(1, 2), BAD);
            due.is("no FRIENDS, and 61 MINUTES", y.leave(61), BAD);
            due.is("no TALES, and 0 MINUTES", y.cost(0, 1), BAD);
            due.is("no such set, and 181", y.said(0, 1, 181, 1), BAD);
            due.is("nobody, and 1000", y.who(1, 1000, 1), BAD);
            due.is("nobody hears it, and no such PERSON", Due.laid("p0;p0;t0,1,1,1;").hears(0, 2), BAD);
            due.is("200 letters, and none", Due.written("p".repeat(200)).write(127), BAD);
        });
        d.says(9, "nothing changes then.", due -> {
            ChurnTalk x = Towns.lively();
            x.write(31);
            x.sit(0, 0);
            x.sit(2, 3);
            x.pass(61);
            x.hush(2);
            x.hush(0);
            x.hush(3);
            due.same("behind BAD and NO", Trace.of(x), Trace.of(Towns.lively()));
            ChurnTalk y = full();
            y.lay();
            y.stand();
            y.undo();
            y.keep();
            y.write('p');
            y.churn(0);
            y.comes(999);
            due.same("behind NO, FULL and NONE", Trace.of(y), Trace.of(full()));
        });
    }

    /** THE TEXT is full, and can't be LAID; two are KEPT, and nothing can be UNDONE. */
    private static ChurnTalk full() {
        ChurnTalk x = Due.written(";".repeat(200));
        x.keep();
        x.keep();
        return x;
    }

    private static void groups(Document d) {
        group(d, 2, "towns", "write", "wipe", "fault", "lay", "person", "tale", "churn");
        group(d, 9, "acts", "sit", "stand", "pass", "hush", "undo");
        group(d, 14, "what comes", "comes", "quiet", "brings", "best", "twos", "leave", "hears", "cost");
        group(d, 22, "what was said", "said", "who");
        group(d, 24, "held back, days", "held", "day", "keep", "back", "count");
    }

    private static void group(Document d, int promise, String name, String... calls) {
        String named = "`" + String.join("`, `", calls) + "`";
        d.says(promise, "Ahead of the calls " + named + " the interface says: ---- " + name + ".",
                due -> SaysFace.groupIs(due, name, calls));
    }
}
