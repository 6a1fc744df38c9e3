/** What the document says in its first lines, and of a TEXT: how it begins, to section 1. */
final class SaysTexts {
    private static final int BAD = -1, NO = -2, FULL = -3, NONE = -4;

    private SaysTexts() {
    }

    static void read(Document d) {
        first(d);
        talk(d);
        questions(d);
        letters(d);
        numbers(d);
        persons(d);
        friends(d);
        tales(d);
        calls(d);
    }

    private static void fault(Due due, String text, int place) {
        due.is("fault() of " + text, Due.written(text).fault(), place);
    }

    private static void first(Document d) {
        d.reads("# ChurnTalk ## What it is");
        d.says(11, "Churned to a conversation: butter will only come, there, to talk, and of a kind,", due -> {
            ChurnTalk x = Due.laid(Towns.LITTLE);
            due.is("nobody there", x.pass(60), 0);
            x.sit(0, 1);
            due.is("they talk", x.pass(2), 10);
            due.is("they have said what they know", x.pass(60), 10);
        });
        d.says(8, "there are two sit to it, on either hand, with the stick going,", due -> {
            ChurnTalk x = Due.laid(Towns.LITTLE);
            x.sit(1, 0);
            due.is("the one", x.churn(0), 1);
            due.is("the other", x.churn(1), 0);
            x.pass(7);
            due.is("MINUTES", x.count(3), 7);
        });
        d.says(4, "and say what they think of people, told in a text with the first fault:", due -> {
            fault(due, Towns.LITTLE, NONE);
            fault(due, "p0;x;y;", 3);
        });
        d.says(7, "people by kind, who sits with whom, tales of people by how ill they are and how long,"
                + " who knows which;", due -> {
            ChurnTalk x = Due.laid(Towns.LITTLE);
            due.is("by kind", x.person(1, 0), 2);
            due.is("who sits with whom", x.person(1, 1), 0b0101);
            due.is("of people", x.tale(0, 0), 3);
            due.is("how ill", x.tale(0, 1), 5);
            due.is("how long", x.tale(0, 2), 2);
            due.is("who knows which", x.tale(0, 4), 0b0001);
        });
    }

    private static void talk(Document d) {
        d.says(13, "two who sit down, minutes in which they tell, hear, are silent, who stand up,"
                + " tales hushed, undone;", due -> {
            ChurnTalk x = Due.laid(Towns.LITTLE);
            due.is("two sit down", x.sit(0, 1), 0b01);
            due.is("they tell", x.pass(1), 5);
            due.is("they hear", x.pass(1), 10);
            due.is("heard", x.person(1, 2), 0b11);
            due.is("they are silent", x.pass(1), 10);
            due.is("they stand up", x.stand(), 1);
            due.is("hushed", x.hush(0), 1);
            due.is("undone", x.undo(), 5);
            due.is("not hushed any more", x.tale(0, 3), 0);
        });
        d.says(8, "who knows what, what is being told, how much butter there is;", due -> {
            ChurnTalk x = Due.laid(Towns.LITTLE);
            x.sit(0, 1);
            x.pass(1);
            due.is("who knows what", x.person(0, 2), 0b01);
            due.is("what is being told", x.churn(3), 0);
            due.is("how much butter", x.count(4), 5);
        });
    }

    private static void questions(Document d) {
        d.says(14, "when so much has come, which two bring most, how all should sit by twos, who would leave for whom,"
                + " in how many sittings a tale comes round to one, how long until two are silent,"
                + " which tale hushed costs least;", due -> {
            ChurnTalk x = Due.laid(Towns.LITTLE);
            x.sit(0, 1);
            due.is("when so much has come", x.comes(6), 2);
            due.is("which two", x.best(60, 0), 23);
            due.is("by twos", x.twos(60, 3), 2);
            due.is("who would leave", Due.laid(Towns.ROW).leave(1), 12);
            due.is("in how many sittings", x.hears(0, 2), 2);
            due.is("how long", x.quiet(), 2);
            due.is("which tale", x.cost(60, 0), 0);
        });
        d.says(22, "what was said by how yellow it is, who sat there;", due -> {
            ChurnTalk x = Due.laid(Towns.LITTLE);
            due.is("what was said", x.said(0, 1, 5, 1), 0b01);
            due.is("who sat there", x.who(60, 4, 1), 12);
        });
        d.says(24, "tales held back by chance, days by draws, towns kept.", due -> {
            ChurnTalk x = Due.laid(Towns.LITTLE);
            due.is("by chance", x.held(0, 1, 1, 5, 3, 0), 7);
            due.is("by draws", x.day(0, 2, 0), 5);
            due.is("kept", x.keep(), 1);
        });
    }

    private static void letters(Document d) {
        d.says(2, "======== 1 A TEXT is letters (200 at most),", due -> {
            ChurnTalk x = new ChurnTalk();
            for (int size = 1; size <= 200; size++) {
                due.is("letter " + size, x.write(' ' + size % 95), size);
            }
            due.is("letter 201", x.write('p'), FULL);
        });
        d.says(5, "ITEMS one behind the other,", due -> {
            ChurnTalk x = Due.written("p0;p0;f0,1;t0,1,1,1;p3;f2,0;t2,1,1,01;");
            due.is("in any order, but behind what they name", x.lay(), 3);
            due.is("tales", x.count(1), 2);
            due.is("friends", x.count(2), 2);
            fault(due, "p0; p0;", 3);
            fault(due, "p0;,p0;", 3);
            fault(due, "p0p0;", 0);
        });
        d.says(4, "each a letter, then what it tells, parted by , and a ; behind it", due -> {
            fault(due, "p0;p0;f0,1;t0,1,1,1;", NONE);
            fault(due, "q0;", 0);
            fault(due, "F0,1;", 0);
            fault(due, "0;", 0);
            fault(due, "p,0;", 0);
            fault(due, "p0;p0;f01;", 6);
            fault(due, "p0;p0;f001;", 6);
            fault(due, "p0;p0;t001,1,1;", 6);
            fault(due, "p0;p0;t0,011,1;", 6);
            fault(due, "p0;p0;t0,1,011;", 6);
            fault(due, "p0;p0;f0;1;", 6);
            fault(due, "p0;p0;f0,1,;", 6);
            fault(due, "p0;p0;t0,1,11;", 6);
            fault(due, "p0;p0", 3);
            fault(due, "p0,p0;", 0);
        });
    }

    private static void numbers(Document d) {
        d.says(4, "(numbers: one or two figures;", due -> {
            ChurnTalk x = Due.laid("p3;p03;p00;f00,1;f1,02;t02,07,09,0;t2,20,9,1;");
            due.is("KIND", x.person(1, 0), 3);
            due.is("friends", x.person(1, 1), 0b101);
            due.is("of whom", x.tale(0, 0), 2);
            due.is("ILL, two figures with a 0", x.tale(0, 1), 7);
            due.is("MINUTES", x.tale(0, 2), 9);
            due.is("ILL, two figures", x.tale(1, 1), 20);
            fault(due, "p;", 0);
            fault(due, "p003;", 0);
            fault(due, "p0;p0;f0,;", 6);
            fault(due, "p0;p0;f000,1;", 6);
            fault(due, "p0;p0;f0,001;", 6);
            fault(due, "p0;p0;t000,1,1,1;", 6);
            fault(due, "p0;p0;t0,010,1,1;", 6);
            fault(due, "p0;p0;t0,1,001,1;", 6);
        });
        d.says(4, "a row: single figures, one next to the other):", due -> {
            String three = "p0;p0;p0;";
            due.is("1 and 2", Due.laid(three + "t0,1,1,12;").tale(0, 4), 0b110);
            due.is("2 and 1", Due.laid(three + "t0,1,1,21;").tale(0, 4), 0b110);
            fault(due, three + "t0,1,1,1,2;", 9);
            fault(due, three + "t0,1,1,1 2;", 9);
            fault(due, three + "t0,1,1,01;", 9);
        });
    }

    /** In a MINUTE each of 0 to 3, of KIND 0 to 3, tells 4, a YOUNG one, ILL by 9, if it can. */
    private static final String KINDS = "p0;p1;p2;p3;p3;p0;f0,4;f1,4;f2,4;f3,4;t5,9,1,0123;";

    private static void persons(Document d) {
        d.says(6, "pK a PERSON of KIND K (0 PLAIN, 1 WIDOW, 2 PARSON, 3 YOUNG);", due -> {
            ChurnTalk x = Due.laid(KINDS);
            int[] kinds = {0, 1, 2, 3, 3, 0};
            for (int p = 0; p < kinds.length; p++) {
                due.is("KIND of " + p, x.person(p, 0), kinds[p]);
            }
            due.is("a PLAIN one tells", x.brings(0, 4, 2), 9);
            due.is("a WIDOW does not", x.brings(1, 4, 2), 0);
            due.is("a PARSON, half", x.brings(2, 4, 2), 4);
            due.is("a YOUNG one, and silence of two such", x.brings(3, 4, 2), 19);
            fault(due, "p4;", 0);
            fault(due, "p10;", 0);
        });
        d.says(6, "6 at most, 0, 1, ..", due -> {
            fault(due, "p0;p0;p0;p0;p0;p0;", NONE);
            fault(due, "p0;p0;p0;p0;p0;p0;p0;", 18);
            ChurnTalk x = Due.laid("p1;p2;p3;");
            due.is("the first is 0", x.person(0, 0), 1);
            due.is("the second is 1", x.person(1, 0), 2);
            due.is("the third is 2", x.person(2, 0), 3);
            due.is("there is no 3", x.person(3, 0), BAD);
        });
    }

    private static void friends(Document d) {
        d.says(6, "fA,B PERSONS A and B (unlike, told ahead) are FRIENDS (no matter if told once more)", due -> {
            fault(due, "p0;p0;f0,0;", 6);
            fault(due, "p0;p0;f1,1;", 6);
            fault(due, "p0;f0,1;p0;", 3);
            fault(due, "p0;f1,0;p0;", 3);
            ChurnTalk x = Due.laid("p0;p0;p0;f2,0;f0,2;f2,0;");
            due.is("2 is one of 0", x.person(0, 1), 0b100);
            due.is("0 is one of 2", x.person(2, 1), 0b001);
            due.is("1 has none", x.person(1, 1), 0);
            due.is("one pair", x.count(2), 1);
        });
    }

    private static void tales(Document d) {
        String two = "p0;p0;";
        d.says(7, "tQ,I,M,R a TALE of PERSON Q (told ahead),", due -> {
            ChurnTalk x = Due.laid("p0;p0;p0;t2,7,3,01;");
            int[] tale = {2, 7, 3, 0, 0b011};
            for (int what = 0; what < tale.length; what++) {
                due.is("tale(0, " + what + ")", x.tale(0, what), tale[what]);
            }
            fault(due, two + "t2,1,1,0;p0;", 6);
            fault(due, "t0,1,1,1;p0;p0;", 0);
        });
        d.says(7, "ILL by I (1 to 20),", due -> {
            due.is("the least", Due.laid(two + "t0,1,1,1;").tale(0, 1), 1);
            due.is("the most", Due.laid(two + "t0,20,1,1;").tale(0, 1), 20);
            fault(due, two + "t0,0,1,1;", 6);
            fault(due, two + "t0,21,1,1;", 6);
        });
        d.says(7, "that takes M (1 to 9) MINUTES,", due -> {
            due.is("the fewest", Due.laid(two + "t0,1,1,1;").tale(0, 2), 1);
            due.is("the most", Due.laid(two + "t0,1,9,1;").tale(0, 2), 9);
            fault(due, two + "t0,1,0,1;", 6);
            fault(due, two + "t0,1,10,1;", 6);
        });
        d.says(7, "that PERSONS R KNOW (a row of one or more; told ahead, unlike, none Q);", due -> {
            ChurnTalk x = Due.laid("p0;p0;p0;t0,1,1,2;t0,1,1,21;");
            due.is("one", x.tale(0, 4), 0b100);
            due.is("two", x.tale(1, 4), 0b110);
            due.is("what 2 KNOWS", x.person(2, 2), 0b11);
            fault(due, two + "t0,1,1,;", 6);
            fault(due, two + "t0,1,1,2;p0;", 6);
            fault(due, two + "t0,1,1,11;", 6);
            fault(due, two + "t0,1,1,10;", 6);
            fault(due, two + "t1,1,1,1;", 6);
            fault(due, two + "t1,1,1,00;", 6);
            fault(due, two + "t1,1,1,2;", 6);
        });
        d.says(7, "9 at most, 0, 1, ..", due -> {
            fault(due, two + "t0,1,1,1;".repeat(9), NONE);
            fault(due, two + "t0,1,1,1;".repeat(10), 6 + 81);
            ChurnTalk x = Due.laid(two + "t0,4,1,1;t0,5,1,1;");
            due.is("the first is 0", x.tale(0, 1), 4);
            due.is("the second is 1", x.tale(1, 1), 5);
            due.is("there is no 2", x.tale(2, 1), BAD);
        });
    }

    private static void calls(Document d) {
        d.says(28, "An object is used for at most 512 calls after it has been made;", due -> {
            ChurnTalk x = new ChurnTalk();
            due.is("call 1", x.sit(0, 1), 0b100011);
            for (int call = 2; call < 511; call++) {
                due.is("call " + call, x.sit(0, 1), NO);
            }
            due.is("call 511", x.pass(9), 82);
            due.is("call 512", x.count(3), 9);
        });
        d.reads("what later calls answer is free.");
    }
}
