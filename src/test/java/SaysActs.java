/** What the document says in section 2: who SITS, what it CAN TELL, MINUTES, HUSHED, UNDONE. */
final class SaysActs {
    private static final int NO = -2, NONE = -4;

    private SaysActs() {
    }

    static void read(Document d) {
        sit(d);
        canTell(d);
        begin(d);
        tell(d);
        told(d);
        silence(d);
        stand(d);
        hush(d);
        undo(d);
    }

    /** 0 and 1 of this town sit, 0 being to tell. */
    private static ChurnTalk sat(String town) {
        ChurnTalk x = Due.laid(town);
        x.sit(0, 1);
        return x;
    }

    /** How much BUTTER there is behind each MINUTE. */
    private static void butterIs(Due due, ChurnTalk x, int... butter) {
        for (int k = 0; k < butter.length; k++) {
            due.is("BUTTER behind MINUTE " + (k + 1), x.pass(1), butter[k]);
        }
    }

    private static void sit(Document d) {
        d.says(9, "======== 2 Two FRIENDS SIT, if nobody does;", due -> {
            ChurnTalk x = Due.laid(Towns.LITTLE);
            due.is("no FRIENDS", x.sit(0, 2), NO);
            due.is("FRIENDS", x.sit(0, 1), 0b01);
            due.is("0 SITS", x.person(0, 3), 1);
            due.is("1 SITS", x.person(1, 3), 1);
            due.is("2 does not", x.person(2, 3), 0);
            due.is("two others", x.sit(2, 3), NO);
            due.is("the same two", x.sit(0, 1), NO);
            x.stand();
            due.is("nobody SITS any more", x.sit(2, 3), 0);
        });
        d.says(9, "the first one is to tell.", due -> {
            String town = "p0;p0;p0;f0,1;t2,3,1,0;t2,9,1,1;";
            ChurnTalk x = Due.laid(town);
            x.sit(0, 1);
            due.is("0 is to tell", x.churn(2), 0);
            due.is("0 tells", x.pass(1), 3);
            x = Due.laid(town);
            x.sit(1, 0);
            due.is("1 is to tell", x.churn(2), 1);
            due.is("1 tells", x.pass(1), 9);
        });
    }

    private static void canTell(Document d) {
        d.says(9, "CAN TELL the other one a TALE: who KNOWS it", due -> {
            String town = "p0;p0;p0;f0,1;t2,9,1,1;t2,9,1,0;t2,9,1,01;t2,9,1,1;";
            due.is("0 can tell", Due.laid(town).sit(0, 1), 0b0110);
            due.is("1 can tell", Due.laid(town).sit(1, 0), 0b1101);
        });
        d.says(9, "and is no WIDOW,", due -> {
            String town = "p1;p0;p0;f0,1;t2,9,1,01;";
            due.is("a WIDOW tells", Due.laid(town).sit(0, 1), 0);
            due.is("a WIDOW is told", Due.laid(town).sit(1, 0), 0b1);
            ChurnTalk x = Due.laid("p1;p0;p0;f0,1;t2,9,1,0;");
            x.sit(0, 1);
            due.is("not in 60 MINUTES", x.pass(60), 0);
        });
        d.says(9, "if it is not HUSHED,", due -> {
            ChurnTalk x = Due.laid("p0;p0;p0;f0,1;t2,9,1,0;t2,4,1,0;");
            x.hush(0);
            due.is("what is left", x.sit(0, 1), 0b10);
            due.is("that alone is told", x.pass(60), 4);
        });
        d.says(9, "not of the other one,", due -> {
            String town = "p0;p0;p0;f0,1;t1,9,1,02;t2,4,1,0;t0,7,1,2;f0,2;f1,2;";
            due.is("not of 1", Due.laid(town).sit(0, 1), 0b010);
            due.is("not of 2", Due.laid(town).sit(0, 2), 0b001);
            due.is("2 to 0: not of 0", Due.laid(town).sit(2, 0), 0b001);
            due.is("2 to 1: not of 1", Due.laid(town).sit(2, 1), 0b100);
            due.is("not in 60 MINUTES", sat(town).pass(60), 4);
        });
        d.says(9, "and was not TOLD since they SIT.", due -> {
            ChurnTalk x = sat("p0;p0;p0;f0,1;t2,9,1,0;");
            due.is("told once, and not told back", x.pass(60), 9);
            x.stand();
            due.is("sitting anew", x.sit(0, 1), 0b1);
            due.is("told once more", x.pass(60), 18);
            x.stand();
            due.is("who heard it", x.sit(1, 0), 0b1);
            due.is("told back", x.pass(60), 27);
        });
    }

    private static void begin(Document d) {
        d.says(11, "In a MINUTE, if two SIT: if no TALE is being told, who is to tell begins the lowest one"
                + " that it CAN TELL;", due -> {
            // Of 0 to 3, known by 0: of 1, HUSHED, ILL by 3 in two MINUTES, ILL by 5 in one.
            ChurnTalk x = Due.laid("p0;p0;p0;f0,1;t1,20,1,0;t2,19,1,0;t2,3,2,0;t2,5,1,0;");
            x.hush(1);
            x.sit(0, 1);
            due.is("behind the first MINUTE", x.pass(1), 3);
            due.is("TALE 2 is being told", x.churn(3), 2);
            due.is("while it is, no other one begins", x.pass(1), 6);
            due.is("then the next one", x.pass(1), 11);
            due.is("no other is told", x.pass(60), 11);
        });
        d.says(11, "has it none, the other one begins its lowest (and is to tell then);", due -> {
            ChurnTalk x = sat("p0;p0;p0;f0,1;t2,4,3,1;t2,6,1,1;");
            due.is("0 is to tell at first", x.churn(2), 0);
            due.is("1 begins", x.pass(1), 4);
            due.is("its lowest", x.churn(3), 0);
            due.is("1 is to tell then", x.churn(2), 1);
            due.is("1 tells all", x.pass(60), 18);
        });
        d.says(11, "has that none either, they are SILENT.", due -> {
            ChurnTalk x = Due.laid("p0;p0;p0;f0,1;t0,9,1,1;t1,9,1,0;t0,9,1,2;");
            x.sit(1, 0);
            due.is("the MINUTE that follows", x.quiet(), 0);
            due.is("60 MINUTES", x.pass(60), 0);
            due.is("no TALE is told", x.churn(3), NONE);
            due.is("who was to tell still is", x.churn(2), 1);
            due.is("nothing was TOLD", x.churn(5), 0);
        });
    }

    private static void tell(Document d) {
        d.says(11, "While one is being told (in the MINUTE in which it begins, too), by a MINUTE there is I more"
                + " BUTTER,", due -> {
            butterIs(due, sat("p0;p0;p0;f0,1;t2,7,3,0;"), 7, 14, 21, 21, 21);
            butterIs(due, sat("p3;p3;p0;f0,1;t2,7,3,1;"), 7, 14, 21);
        });
        d.says(11, "by a PARSON half of it, cut,", due -> {
            butterIs(due, sat("p2;p0;p0;f0,1;t2,7,3,0;"), 3, 6, 9, 9);
            butterIs(due, sat("p2;p0;p0;f0,1;t2,8,2,0;"), 4, 8, 8);
            butterIs(due, sat("p2;p0;p0;f0,1;t2,1,2,0;"), 0, 0);
            butterIs(due, sat("p0;p2;p2;f0,1;t2,7,1,0;t2,9,1,1;"), 7, 11, 11);
        });
        d.says(8, "and the TALE has a MINUTE less to go;", due -> {
            ChurnTalk x = sat("p0;p0;p0;f0,1;t2,7,9,0;");
            for (int left = 8; left >= 1; left--) {
                x.pass(1);
                due.is("MINUTES to go", x.churn(4), left);
            }
        });
    }

    private static void told(Document d) {
        String town = "p0;p0;p0;f0,1;t2,7,3,0;t2,2,3,0;";
        d.says(8, "with none left it was TOLD,", due -> {
            ChurnTalk x = sat(town);
            x.pass(2);
            due.is("a MINUTE ahead", x.churn(5), 0);
            due.is("still told", x.churn(3), 0);
            x.pass(1);
            due.is("TOLD", x.churn(5), 0b01);
            due.is("not told any more", x.churn(3), NONE);
            due.is("no MINUTES to go", x.churn(4), 0);
        });
        d.says(6, "the other one KNOWS it from then on, and is to tell.", due -> {
            ChurnTalk x = sat(town);
            x.pass(2);
            due.is("not ahead", x.person(1, 2), 0);
            due.is("0 tells", x.churn(2), 0);
            x.pass(1);
            due.is("from then on", x.person(1, 2), 0b01);
            due.is("who told it still does", x.person(0, 2), 0b11);
            due.is("1 is to tell", x.churn(2), 1);
            x.stand();
            due.is("standing, too", x.person(1, 2), 0b01);
            due.is("and can tell it", x.sit(1, 0), 0b01);
        });
    }

    private static void silence(Document d) {
        d.says(11, "In a MINUTE of SILENCE there is 10 more BUTTER, if both are YOUNG.", due -> {
            butterIs(due, sat("p3;p3;f0,1;"), 10, 20, 30);
            butterIs(due, sat("p3;p3;p0;f0,1;t2,4,2,0;"), 4, 8, 18, 28);
            for (int kind = 0; kind <= 2; kind++) {
                due.is("YOUNG, and of KIND " + kind, sat("p3;p" + kind + ";f0,1;").pass(60), 0);
                due.is("of KIND " + kind + ", and YOUNG", sat("p" + kind + ";p3;f0,1;").pass(60), 0);
                due.is("both of KIND " + kind, sat("p" + kind + ";p" + kind + ";f0,1;").pass(60), 0);
            }
        });
        d.says(11, "If nobody SITS, a MINUTE goes by.", due -> {
            ChurnTalk x = Due.laid("p3;p3;p0;f0,1;t2,4,2,0;");
            due.is("BUTTER", x.pass(1), 0);
            due.is("MINUTES", x.count(3), 1);
            due.is("BUTTER", x.pass(59), 0);
            due.is("MINUTES", x.count(3), 60);
            due.is("nobody hears a TALE", x.count(6), 1);
            due.is("nobody SITS", x.churn(0), NONE);
        });
    }

    private static void stand(Document d) {
        d.says(10, "They STAND UP: a TALE that is being told was not TOLD.", due -> {
            ChurnTalk x = sat("p0;p0;p0;f0,1;t2,7,3,0;");
            x.pass(2);
            due.is("TALES TOLD", x.stand(), 0);
            due.is("nobody SITS", x.churn(0), NONE);
            due.is("0 does not", x.person(0, 3), 0);
            due.is("nobody heard it", x.tale(0, 4), 0b001);
            due.is("the BUTTER stays", x.count(4), 14);
            due.is("nobody goes on with it", x.pass(60), 14);
            x.sit(0, 1);
            due.is("no TALE is told yet", x.churn(3), NONE);
            due.is("so it takes no MINUTES", x.churn(4), 0);
            due.is("it begins anew", x.pass(3), 35);
            due.is("and was TOLD", x.stand(), 1);
        });
    }

    private static void hush(Document d) {
        String town = "p0;p0;p0;f0,1;t2,7,3,0;t2,2,3,0;";
        d.says(12, "A TALE is HUSHED that is not being told:", due -> {
            ChurnTalk x = sat(town);
            x.pass(1);
            due.is("it is being told", x.hush(0), NO);
            due.is("another one", x.hush(1), 1);
            x.pass(2);
            due.is("it was TOLD", x.hush(0), 0);
        });
        d.says(12, "nobody tells it any more.", due -> {
            ChurnTalk x = sat(town);
            x.hush(0);
            due.is("this sitting", x.pass(60), 6);
            x.stand();
            due.is("the next one", x.sit(0, 1), 0b10);
            due.is("nor BRINGS anything", x.brings(0, 1, 60), 6);
            due.is("who KNOWS it still does", x.person(0, 2), 0b11);
        });
    }

    private static void undo(Document d) {
        d.says(13, "UNDONE are the latest of these, of MINUTES", due -> {
            ChurnTalk x = sat(Towns.LITTLE);
            x.pass(2);
            x.hush(1);
            x.stand();
            due.is("to stand up", x.undo(), 3);
            due.is("they sit again", x.churn(1), 1);
            due.is("TOLD since they sit", x.churn(5), 0b01);
            due.is("to hush", x.undo(), 2);
            due.is("not HUSHED", x.tale(1, 3), 0);
            due.is("MINUTES", x.undo(), 1);
            due.is("no MINUTE gone by", x.count(3), 0);
            due.is("no BUTTER", x.count(4), 0);
            due.is("1 has not heard it", x.person(1, 2), 0b10);
            due.is("to sit", x.undo(), 0);
            due.is("nobody sits", x.churn(0), NONE);
            due.is("nothing is left", x.undo(), NO);
        });
        d.says(13, "(all that go by at one time are one;", due -> {
            ChurnTalk x = Due.laid(Towns.LITTLE);
            x.pass(60);
            x.pass(7);
            due.is("7 MINUTES", x.undo(), 1);
            due.is("60 are left", x.count(3), 60);
            due.is("60 MINUTES", x.undo(), 0);
            due.is("none is left", x.count(3), 0);
        });
        d.says(13, "the last 8 can be).", due -> {
            ChurnTalk x = Due.laid(Towns.LITTLE);
            for (int acts = 1; acts <= 10; acts++) {
                x.pass(acts);
                due.is("behind " + acts, x.count(7), Math.min(acts, 8));
            }
            for (int more = 7; more >= 0; more--) {
                due.is("undo()", x.undo(), more);
            }
            due.is("the ninth", x.undo(), NO);
            due.is("the first two stay", x.count(3), 1 + 2);
        });
    }
}
