/** Promises 1 to 8: a new object, the text, its fault, what is laid, persons, tales, who sits. */
public final class TownsTest {
    private static final Due DUE = new Due();
    private static final int BAD = -1, NO = -2, FULL = -3, NONE = -4;

    public static void main(String[] args) {
        newObject();
        write();
        wipe();
        faultOfPersons();
        faultOfFriends();
        faultOfTales();
        faultOfItems();
        lay();
        person();
        tale();
        churn();
        DUE.end();
    }

    private static void newObject() {
        ChurnTalk x = new ChurnTalk();
        int[] counts = {6, 7, 7, 0, 0, 0, 9, 0, 0, 0};
        for (int what = 0; what < counts.length; what++) {
            DUE.is("new: count(" + what + ")", x.count(what), counts[what]);
        }
        int[] kinds = {0, 3, 1, 2, 3, 0};
        int[] friends = {0b100110, 0b010001, 0b001001, 0b010100, 0b101010, 0b010001};
        int[] known = {0b0100011, 0b0001010, 0, 0b1010000, 0b0000100, 0b0010000};
        for (int p = 0; p < 6; p++) {
            DUE.is("new: kind of " + p, x.person(p, 0), kinds[p]);
            DUE.is("new: friends of " + p, x.person(p, 1), friends[p]);
            DUE.is("new: known by " + p, x.person(p, 2), known[p]);
            DUE.is("new: sits " + p, x.person(p, 3), 0);
        }
        int[][] tales = {
            {3, 6, 2, 0, 0b000001}, {5, 9, 3, 0, 0b000011}, {0, 4, 1, 0, 0b010000},
            {2, 12, 4, 0, 0b000010}, {1, 3, 2, 0, 0b101000}, {4, 7, 1, 0, 0b000001},
            {0, 8, 3, 0, 0b001000}};
        for (int t = 0; t < 7; t++) {
            for (int what = 0; what < 5; what++) {
                DUE.is("new: tale(" + t + ", " + what + ")", x.tale(t, what), tales[t][what]);
            }
        }
        DUE.is("new: fault()", x.fault(), NONE);
        DUE.is("new: lay()", x.lay(), NO);
        DUE.is("new: wipe()", x.wipe(), 0);
        DUE.is("new: churn(0)", x.churn(0), NONE);
        DUE.is("new: undo()", x.undo(), NO);
        DUE.is("new: back()", x.back(), NO);
    }

    private static void write() {
        ChurnTalk x = new ChurnTalk();
        int[] bad = {31, 127, 0, -1, 10, 256 + 'p', 65536 + 'p', Integer.MIN_VALUE, Integer.MAX_VALUE};
        for (int letter : bad) {
            DUE.is("write(" + letter + ")", x.write(letter), BAD);
        }
        DUE.is("behind BAD: count(9)", x.count(9), 0);
        DUE.is("write(32)", x.write(32), 1);
        DUE.is("write(126)", x.write(126), 2);
        for (int size = 3; size <= 200; size++) {
            DUE.is("write number " + size, x.write('p'), size);
        }
        DUE.is("write number 201", x.write('p'), FULL);
        DUE.is("a wrong letter in a full text", x.write(31), BAD);
        DUE.is("full: count(9)", x.count(9), 200);
        DUE.is("full: wipe()", x.wipe(), 200);
        DUE.is("behind wipe: write", x.write('p'), 1);
    }

    private static void wipe() {
        ChurnTalk x = Due.laid("p0;p3;");
        x.sit(0, 1);
        DUE.is("wipe() behind lay", x.wipe(), 6);
        DUE.is("wipe() again", x.wipe(), 0);
        DUE.is("count(9) behind wipe", x.count(9), 0);
        DUE.is("the town stays behind wipe", x.count(0), 2);
        x.write('x');
        DUE.is("fault() of x", x.fault(), 0);
        x.wipe();
        DUE.is("fault() behind wipe", x.fault(), NONE);
    }

    private static void fault(String text, int place) {
        DUE.is("fault() of '" + text + "'", Due.written(text).fault(), place);
    }

    private static void faultOfPersons() {
        fault("", NONE);
        fault("p0;", NONE);
        fault("p1;p2;p3;", NONE);
        fault("p4;", 0);
        fault("p03;", NONE);
        fault("p00;", NONE);
        fault("p003;", 0);
        fault("p10;", 0);
        fault("p;", 0);
        fault("p-1;", 0);
        fault("p0,0;", 0);
        fault("p0;p0;p0;p0;p0;p0;", NONE);
        fault("p0;p0;p0;p0;p0;p0;p0;", 18);
    }

    private static void faultOfFriends() {
        fault("p0;p0;f0,1;", NONE);
        fault("p0;p0;f00,01;", NONE);
        fault("p0;p0;f0,1;f1,0;f0,1;", NONE);
        fault("p0;p0;f0,0;", 6);
        fault("p0;p0;f0,2;", 6);
        fault("p0;p0;f2,0;", 6);
        fault("p0;p0;f0;", 6);
        fault("p0;p0;f0,;", 6);
        fault("p0;p0;f,1;", 6);
        fault("p0;p0;f0,1,1;", 6);
        fault("p0;p0;f01;", 6);
        fault("p0;p0;f000,1;", 6);
        fault("p0;f0,1;p0;", 3);
        fault("f0,1;p0;p0;", 0);
    }

    private static void faultOfTales() {
        String two = "p0;p0;p0;";
        fault(two + "t0,1,1,1;", NONE);
        fault(two + "t0,20,9,12;", NONE);
        fault(two + "t00,01,01,21;", NONE);
        fault(two + "t0,0,1,1;", 9);
        fault(two + "t0,21,1,1;", 9);
        fault(two + "t0,1,0,1;", 9);
        fault(two + "t0,1,10,1;", 9);
        fault(two + "t0,1,1,;", 9);
        fault(two + "t0,1,1;", 9);
        fault(two + "t0,1,1,0;", 9);
        fault(two + "t0,1,1,10;", 9);
        fault(two + "t0,1,1,11;", 9);
        fault(two + "t0,1,1,13;", 9);
        fault(two + "t0,1,1,1,2;", 9);
        fault(two + "t3,1,1,1;", 9);
        fault(two + "t,1,1,1;", 9);
        fault(two + "t0,,1,1;", 9);
        fault(two + "t0,001,1,1;", 9);
        fault(two + "t001,1,1;", 9);
        fault(two + "t0,0101,1;", 9);
        fault(two + "t0,1,011;", 9);
        fault(two + "t1,1,1,00;", 9);
        fault(two + "t1,1,1,3;", 9);
        fault(two + "p0;t3,1,1,00;", 12);
        fault(two + "t0.1,1,1;", 9);
        fault(two + "t0,1.1,1;", 9);
        fault(two + "t0,1,1.1;", 9);
        fault("p0;t0,1,1,1;p0;", 3);
        fault("p0;t1,1,1,0;p0;", 3);
        String nine = two + "t0,1,1,1;t0,1,1,1;t0,1,1,1;t0,1,1,1;t0,1,1,1;t0,1,1,1;"
                + "t0,1,1,1;t0,1,1,1;t0,1,1,1;";
        fault(nine, NONE);
        fault(nine + "t0,1,1,1;", 9 + 9 * 9);
        fault(nine + "p0;t0,1,1,1;", 9 + 9 * 9 + 3);
    }

    private static void faultOfItems() {
        fault("p0", 0);
        fault("p0;p", 3);
        fault("p0;p0;f0,1", 6);
        fault("p0;p0;t0,1,1,1", 6);
        fault("x0;", 0);
        fault(";", 0);
        fault("p0;;", 3);
        fault("P0;", 0);
        fault("p0; p0;", 3);
        fault(" p0;", 0);
        fault("p0;p9;x", 3);
        String full = "p0;p0;" + "f00,1;".repeat(4) + "f0,1;".repeat(34);
        fault(full, NONE);
        fault(full.substring(0, 199), 195);
        ChurnTalk x = Due.written("p9;");
        x.fault();
        DUE.is("fault() changes no town", x.count(0), 6);
        DUE.is("fault() changes no text", x.count(9), 3);
        DUE.is("fault() told again", x.fault(), 0);
    }

    private static void lay() {
        ChurnTalk x = new ChurnTalk();
        x.sit(0, 1);
        x.pass(3);
        x.hush(3);
        x.keep();
        Due.rewrite(x, "p0;p0;p9;");
        DUE.is("lay() with a fault", x.lay(), NO);
        x.wipe();
        DUE.is("lay() of nobody", x.lay(), NO);
        DUE.is("NO: persons stay", x.count(0), 6);
        DUE.is("NO: minutes stay", x.count(3), 3);
        DUE.is("NO: they sit", x.churn(0), 0);
        DUE.is("NO: hushed stays", x.tale(3, 3), 1);
        DUE.is("NO: what can be undone stays", x.count(7), 3);
        DUE.is("NO: kept stays", x.count(8), 1);
        Due.rewrite(x, "p3;p0;f0,1;t0,2,3,1;");
        DUE.is("lay()", x.lay(), 2);
        int[] counts = {2, 1, 1, 0, 0, 0, 1, 0, 0, 20};
        for (int what = 0; what < counts.length; what++) {
            DUE.is("laid: count(" + what + ")", x.count(what), counts[what]);
        }
        DUE.is("laid: churn(0)", x.churn(0), NONE);
        DUE.is("laid: hushed", x.tale(0, 3), 0);
        DUE.is("laid: undo()", x.undo(), NO);
        DUE.is("laid: back()", x.back(), NO);
        DUE.is("laid: person(2, 0)", x.person(2, 0), BAD);
        DUE.is("laid: tale(1, 0)", x.tale(1, 0), BAD);
        x.write('p');
        x.write('0');
        x.write(';');
        DUE.is("laid with one more", x.lay(), 3);
        DUE.is("the one more has no friends", x.person(2, 1), 0);
        DUE.is("the one more knows nothing", x.person(2, 2), 0);
        ChurnTalk again = Due.laid("p0;p0;p0;p0;f0,3;t1,5,1,0;");
        DUE.is("laid once more", again.lay(), 4);
        DUE.is("of the first town nothing stays: known by 0", again.person(0, 2), 1);
        DUE.is("of the first town nothing stays: known by 1", again.person(1, 2), 0);
        DUE.is("of the first town nothing stays: friends of 0", again.person(0, 1), 0b1000);
        DUE.is("of the first town nothing stays: told to 3", again.sit(0, 3), 1);
        DUE.is("one alone is laid", Due.laid("p0;").count(0), 1);
    }

    private static void person() {
        ChurnTalk x = Due.laid("p3;p0;p2;f0,1;f1,0;f2,1;t0,5,1,12;t2,5,1,0;");
        DUE.is("person(0, 0)", x.person(0, 0), 3);
        DUE.is("person(1, 1), friends told twice", x.person(1, 1), 0b101);
        DUE.is("person(0, 1)", x.person(0, 1), 0b010);
        DUE.is("person(2, 2)", x.person(2, 2), 0b01);
        x.hush(0);
        DUE.is("person(2, 2), hushed ones, too", x.person(2, 2), 0b01);
        x.sit(1, 0);
        DUE.is("person(0, 3)", x.person(0, 3), 1);
        DUE.is("person(1, 3)", x.person(1, 3), 1);
        DUE.is("person(2, 3)", x.person(2, 3), 0);
        x.pass(1);
        DUE.is("person(1, 2) behind a tale", x.person(1, 2), 0b11);
        x.stand();
        DUE.is("person(0, 3) standing", x.person(0, 3), 0);
        int[][] bad = {{-1, 0}, {3, 0}, {0, -1}, {0, 4}, {Integer.MIN_VALUE, 0}, {0, Integer.MAX_VALUE}};
        for (int[] row : bad) {
            DUE.is("person(" + row[0] + ", " + row[1] + ")", x.person(row[0], row[1]), BAD);
        }
    }

    private static void tale() {
        ChurnTalk x = Due.laid("p0;p0;p2;f0,1;t2,20,9,1;t1,3,1,02;");
        int[][] tales = {{2, 20, 9, 0, 0b010}, {1, 3, 1, 0, 0b101}};
        for (int t = 0; t < 2; t++) {
            for (int what = 0; what < 5; what++) {
                DUE.is("tale(" + t + ", " + what + ")", x.tale(t, what), tales[t][what]);
            }
        }
        x.hush(1);
        DUE.is("tale(1, 3), hushed", x.tale(1, 3), 1);
        DUE.is("tale(1, 4), hushed", x.tale(1, 4), 0b101);
        DUE.is("tale(0, 3), another one hushed", x.tale(0, 3), 0);
        x.sit(0, 1);
        x.pass(8);
        DUE.is("tale(0, 4), not yet told", x.tale(0, 4), 0b010);
        x.pass(1);
        DUE.is("tale(0, 4), told", x.tale(0, 4), 0b011);
        int[][] bad = {{-1, 0}, {2, 0}, {0, -1}, {0, 5}, {Integer.MAX_VALUE, 0}, {0, Integer.MIN_VALUE}};
        for (int[] row : bad) {
            DUE.is("tale(" + row[0] + ", " + row[1] + ")", x.tale(row[0], row[1]), BAD);
        }
    }

    private static void churnIs(ChurnTalk x, String when, int... answers) {
        for (int what = 0; what < answers.length; what++) {
            DUE.is(when + ": churn(" + what + ")", x.churn(what), answers[what]);
        }
    }

    private static void churn() {
        ChurnTalk x = Due.laid("p0;p0;p0;f0,1;t2,5,2,1;t2,4,1,0;");
        churnIs(x, "nobody", NONE, NONE, NONE, NONE, NONE, NONE);
        x.sit(0, 1);
        churnIs(x, "sitting", 0, 1, 0, NONE, 0, 0);
        x.pass(1);
        churnIs(x, "a short tale told", 0, 1, 1, NONE, 0, 0b10);
        x.pass(1);
        churnIs(x, "a tale begun", 0, 1, 1, 0, 1, 0b10);
        x.pass(1);
        churnIs(x, "both told", 0, 1, 0, NONE, 0, 0b11);
        x.pass(1);
        churnIs(x, "silent", 0, 1, 0, NONE, 0, 0b11);
        DUE.is("churn(-1)", x.churn(-1), BAD);
        DUE.is("churn(6)", x.churn(6), BAD);
        x.stand();
        churnIs(x, "standing", NONE, NONE, NONE, NONE, NONE, NONE);
        DUE.is("nobody: churn(-1)", x.churn(-1), BAD);
        DUE.is("nobody: churn(6)", x.churn(6), BAD);
    }
}
