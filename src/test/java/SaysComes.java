/** What the document says in section 3: COMES, QUIET, BRINGS, BEST, TWOS, LEAVE, HEARS, COST. */
final class SaysComes {
    private static final int BAD = -1, NO = -2, NONE = -4;

    /** In a MINUTE 01 bring 1 and 10 bring 9, in two MINUTES 10 either way. */
    private static final String UNLIKE = "p0;p0;p0;f0,1;t2,1,1,0;t2,9,1,1;";
    private static final String STRANGERS = "p3;p3;p3;t0,9,9,1;";

    private SaysComes() {
    }

    static void read(Document d) {
        comes(d);
        quiet(d);
        brings(d);
        best(d);
        twos(d);
        twosOfSeveral(d);
        leave(d);
        leaveFirst(d);
        hears(d);
        cost(d);
    }

    private static ChurnTalk sat(String town) {
        ChurnTalk x = Due.laid(town);
        x.sit(0, 1);
        return x;
    }

    /** A row of four that bring so much in a MINUTE: 01, 12, 23, in either order. */
    private static String row(int first, int middle, int last) {
        return "p0;p0;p0;p0;f0,1;f1,2;f2,3;t3," + first + ",1,0;t0," + middle + ",1,1;t0," + last + ",1,3;";
    }

    private static void comes(Document d) {
        d.says(14, "======== 3 Nothing else being done:", due -> {
            ChurnTalk x = Towns.lively();
            x.comes(19);
            x.quiet();
            due.same("all stands as it did", Trace.of(x), Trace.of(Towns.lively()));
            due.is("they stay seated, however long", sat("p3;p3;f0,1;").comes(999), 100);
            due.is("nobody sits down", Due.laid("p3;p3;f0,1;").comes(1), NONE);
        });
        d.says(14, "COMES for h (0 to 999): behind how many MINUTES (0 to 120) there is BUTTER of h or more"
                + " first;", due -> {
            ChurnTalk x = sat("p3;p3;p0;f0,1;" + "t2,1,9,0;".repeat(9));
            // 1 a MINUTE for 81 MINUTES, 10 a MINUTE then: 471 behind 120.
            int[][] rows = {{0, 0}, {1, 1}, {81, 81}, {82, 82}, {91, 82}, {92, 83}, {471, 120}, {472, NONE},
                {999, NONE}, {-1, BAD}, {1000, BAD}};
            for (int[] row : rows) {
                due.is("comes(" + row[0] + ")", x.comes(row[0]), row[1]);
            }
            x.pass(2);
            due.is("BUTTER that there is", x.comes(2), 0);
            due.is("from now on", x.comes(81), 79);
            due.is("from now on", x.comes(481), 119);
        });
        d.says(14, "none.", due -> {
            due.is("nobody SITS", new ChurnTalk().comes(1), NONE);
            due.is("all that there is to tell", sat(Towns.LITTLE).comes(11), NONE);
        });
    }

    private static void quiet(Document d) {
        d.says(15, "QUIET: behind how many MINUTES (0 to 120) that which follows is one of SILENCE first,"
                + " of those who SIT;", due -> {
            due.is("one TALE of two MINUTES", sat(Towns.LITTLE).quiet(), 2);
            due.is("nine of nine", sat(Towns.NINE).quiet(), 81);
            due.is("none to tell", sat("p0;p0;f0,1;").quiet(), 0);
            ChurnTalk x = sat("p0;p0;p0;f0,1;t2,1,3,0;t2,1,2,1;");
            for (int k = 0; k <= 7; k++) {
                due.is("behind " + k, x.quiet(), Math.max(0, 5 - k));
                x.pass(1);
            }
        });
        // Each TALE is TOLD once since they SIT: two who SIT are silent behind 81 MINUTES at the most.
        d.says(15, "none.", due -> {
            ChurnTalk x = sat("p3;p3;p0;f0,1;" + "t2,1,9,0;".repeat(9));
            due.is("the longest", x.quiet(), 81);
            x.pass(60);
            due.is("behind 60", x.quiet(), 21);
            x.stand();
            due.is("nobody SITS", x.quiet(), NO);
        });
    }

    private static void brings(Document d) {
        d.says(16, "BRINGS of two FRIENDS, the first one being to tell, in n (1 to 60) MINUTES:"
                + " how much BUTTER would come, did they SIT down now", due -> {
            ChurnTalk x = Due.laid(UNLIKE);
            int[][] rows = {{0, 1, 1, 1}, {1, 0, 1, 9}, {0, 1, 2, 10}, {1, 0, 60, 10}, {0, 1, 0, BAD},
                {0, 1, 61, BAD}, {0, 2, 1, NO}, {2, 1, 60, NO}};
            for (int[] r : rows) {
                due.is("brings(" + r[0] + ", " + r[1] + ", " + r[2] + ")", x.brings(r[0], r[1], r[2]), r[3]);
            }
            due.is("nobody has sat down", x.churn(0), NONE);
            due.is("two YOUNG ones", Due.laid("p3;p3;f0,1;").brings(1, 0, 60), 600);
        });
        d.says(16, "(whoever SITS aside),", due -> {
            ChurnTalk x = Due.laid(Towns.LITTLE);
            x.sit(0, 1);
            x.pass(1);
            due.is("the same two, anew", x.brings(0, 1, 60), 10);
            due.is("one of them", x.brings(1, 2, 60), 4);
            due.is("two others", x.brings(3, 2, 3), 30);
            x.pass(1);
            due.is("what was TOLD, anew", x.brings(0, 1, 60), 10);
            due.is("they still sit", x.churn(5), 0b01);
        });
        d.says(16, "by all that is KNOWN, HUSHED now.", due -> {
            ChurnTalk x = sat(Towns.LITTLE);
            due.is("1 KNOWS tale 1 alone", x.brings(1, 2, 60), 4);
            x.pass(2);
            // 1 tells tale 0 by half of 5, cut (2, 2), 2 has none, 1 tells tale 1 (4).
            due.is("1 has heard tale 0", x.brings(1, 2, 60), 8);
            x.hush(1);
            due.is("tale 1 is HUSHED", x.brings(1, 2, 60), 4);
            x.hush(0);
            due.is("both are", x.brings(1, 2, 60), 0);
        });
    }

    private static void best(Document d) {
        d.says(17, "BEST in n: of all two FRIENDS in either order those who BRING most,", due -> {
            due.is("the higher one first", Due.laid(UNLIKE).best(1, 0), 10);
            due.is("how much", Due.laid(UNLIKE).best(1, 1), 9);
            due.is("no FRIENDS, who would bring more", Due.laid("p3;p3;p0;p0;f2,3;").best(60, 0), 23);
            due.is("0", Due.laid("p3;p3;p0;p0;f2,3;").best(60, 1), 0);
            due.is("the last two", Due.laid("p0;p0;p0;p0;f0,1;f2,3;t2,5,1,0;t0,6,1,3;").best(1, 0), 23);
        });
        d.says(17, "of several the first (by the first one, then the other):", due -> {
            due.is("either order", Due.laid(UNLIKE).best(2, 0), 1);
            due.is("by the first one", Due.laid("p3;p3;p3;p3;f3,2;f3,1;").best(1, 0), 13);
            due.is("then the other", Due.laid("p3;p3;p3;f2,0;f1,0;").best(1, 0), 1);
        });
        d.says(17, "10 times the first one, and the other; how much;", due -> {
            due.is("5 and 4", Due.laid("p0;p0;p0;p0;p0;p0;f4,5;t0,1,1,4;t0,2,1,5;").best(1, 0), 54);
            due.is("how much", Due.laid("p0;p0;p0;p0;p0;p0;f4,5;t0,1,1,4;t0,2,1,5;").best(1, 1), 2);
            due.is("0 and 2", Due.laid("p3;p0;p3;f0,2;").best(60, 0), 2);
            due.is("how much", Due.laid("p3;p0;p3;f0,2;").best(60, 1), 600);
        });
        d.says(17, "none (there are no FRIENDS).", due -> {
            due.is("who", Due.laid(STRANGERS).best(60, 0), NONE);
            due.is("how much", Due.laid(STRANGERS).best(60, 1), NONE);
        });
    }

    private static void twosAre(Due due, String town, int sum, int... mates) {
        ChurnTalk x = Due.laid(town);
        due.is("the sum in " + town, x.twos(1, -1), sum);
        for (int p = 0; p < mates.length; p++) {
            due.is("with " + p + " in " + town, x.twos(1, p), mates[p]);
        }
    }

    private static void twos(Document d) {
        d.says(18, "TWOS in n: of all ways for PERSONS to SIT by twos, each two FRIENDS,", due -> {
            twosAre(due, "p3;p3;p3;p3;f0,2;f1,3;", 20, 2, 3, 0, 1);
            twosAre(due, "p3;p3;p0;p0;f0,2;", 0, 2, NONE, 0, NONE);
            ChurnTalk x = Due.laid(Towns.LITTLE);
            due.is("in 60 MINUTES", x.twos(60, -1), 610);
            due.is("in a MINUTE", x.twos(1, -1), 15);
        });
        d.says(18, "of whom the lower is to tell,", due -> twosAre(due, UNLIKE, 1, 1, 0, NONE));
        d.says(18, "each as alone,", due -> {
            // Both 0 and 2 KNOW the one TALE, and both tell it.
            twosAre(due, "p0;p0;p0;p0;p0;f0,1;f2,3;t4,5,1,02;", 10, 1, 0, 3, 2, NONE);
            ChurnTalk x = sat("p0;p0;p0;p0;p0;f0,1;f2,3;t4,5,1,02;");
            x.pass(1);
            due.is("who sits now sits aside", x.twos(1, -1), 10);
        });
        d.says(18, "any staying aside,", due -> {
            twosAre(due, "p3;p3;p3;f0,1;f1,2;f0,2;", 10, 1, 0, NONE);
            twosAre(due, "p3;", 0, NONE);
            twosAre(due, row(4, 9, 4), 9, NONE, 2, 1, NONE);
        });
        d.says(18, "that which BRINGS most in sum,", due -> {
            twosAre(due, row(6, 9, 6), 12, 1, 0, 3, 2);
            twosAre(due, row(5, 9, 5), 10, 1, 0, 3, 2);
            twosAre(due, row(4, 10, 5), 10, NONE, 2, 1, NONE);
        });
    }

    private static void twosOfSeveral(Document d) {
        d.says(18, "of several the first (by with whom the lowest PERSON SITS, the lowest ahead, aside behind all,"
                + " then the next, ..):", due -> {
            twosAre(due, "p3;p3;p3;p3;f0,3;f1,2;f0,2;f1,3;", 20, 2, 3, 0, 1);
            twosAre(due, "p3;p3;p3;f1,2;f0,2;", 10, 2, NONE, 0);
            twosAre(due, row(5, 9, 4), 9, 1, 0, 3, 2);
            twosAre(due, "p0;p3;p3;p3;f1,3;f1,2;", 10, NONE, 2, 1, NONE);
            twosAre(due, "p3;p3;p3;p3;p3;f0,1;f2,4;f3,4;", 20, 1, 0, 4, NONE, 2);
            twosAre(due, "p0;p0;f0,1;", 0, 1, 0);
        });
        d.says(18, "how much; with whom one SITS; none.", due -> {
            twosAre(due, "p3;p3;p3;f1,2;", 10, NONE, 2, 1);
            twosAre(due, STRANGERS, 0, NONE, NONE, NONE);
        });
    }

    private static void leaveIs(Due due, String town, int answer) {
        due.is("leave(1) in " + town, Due.laid(town).leave(1), answer);
    }

    private static void leave(Document d) {
        d.says(19, "LEAVE in n: of two FRIENDS who do not SIT together by TWOS, of whom both would have more"
                + " by what they BRING (the lower one being to tell) than by what those BRING with whom"
                + " they SIT", due -> {
            leaveIs(due, row(6, 9, 6), 12);
            leaveIs(due, row(8, 9, 8), 12);
            leaveIs(due, row(9, 9, 6), NONE);
            leaveIs(due, row(6, 9, 9), NONE);
            leaveIs(due, row(4, 9, 4), NONE);
            leaveIs(due, "p3;p3;f0,1;", NONE);
            leaveIs(due, "p0;p0;p0;p0;f0,1;f2,3;t3,6,1,0;t0,9,1,1;t0,6,1,3;", NONE);
            // 1 tells 2 ILL by 5; did 2 tell 1, it would be ILL by 9.
            leaveIs(due, "p0;p0;p0;p0;f0,1;f1,2;f2,3;t3,6,1,0;t0,5,1,1;t3,9,1,2;t0,6,1,2;", NONE);
            ChurnTalk x = Due.laid(Towns.ROW);
            x.hush(1);
            due.is("what 1 would tell 2 is HUSHED", x.leave(1), NONE);
        });
        // Who is aside by TWOS, and would bring more with one who would leave for it, would SIT there.
        d.says(19, "(aside: 0),", due -> {
            leaveIs(due, "p0;p0;p0;f0,1;f1,2;t2,6,1,0;t0,6,1,2;", NONE);
            leaveIs(due, "p0;p0;p0;f0,1;f1,2;t2,6,1,0;t0,5,1,2;", NONE);
            twosAre(due, "p0;p0;p0;f0,1;f1,2;t2,6,1,0;t0,5,1,2;", 6, 1, 0, NONE);
            leaveIs(due, "p0;p0;p0;", NONE);
        });
    }

    private static void leaveFirst(Document d) {
        // In a row of six 01, 23 and 45 sit and bring 6 each; 12 would bring 7, 34 would bring 8.
        String six = "p0;p0;p0;p0;p0;p0;f0,1;f1,2;f2,3;f3,4;f4,5;t5,6,1,0;t0,7,1,1;t1,6,1,2;t2,8,1,3;t3,6,1,4;";
        // 1 tells 0 for 6, 02 and 03 would bring 7 and 9; 01, 24 and 35 sit, and bring 6 each.
        String fork = "p0;p0;p0;p0;p0;p0;f0,1;f0,2;f0,3;f2,4;f3,5;t2,6,1,1;t4,7,1,2;t0,6,1,2;t5,9,1,3;t0,6,1,3;";
        d.says(19, "the first (by the lower one, then the other):", due -> {
            twosAre(due, six, 18, 1, 0, 3, 2, 5, 4);
            leaveIs(due, six, 12);
            twosAre(due, fork, 18, 1, 0, 4, 5, 2, 3);
            leaveIs(due, fork, 2);
        });
        d.says(19, "10 times the lower, and the other; none.", due -> {
            ChurnTalk x = Due.laid(six);
            x.hush(1);
            due.is("3 and 4", x.leave(1), 34);
            x.hush(3);
            due.is("nobody any more", x.leave(1), NONE);
            leaveIs(due, STRANGERS, NONE);
        });
    }

    private static void hearsAre(Due due, ChurnTalk x, int... sittings) {
        for (int p = 0; p < sittings.length; p++) {
            due.is("hears(0, " + p + ")", x.hears(0, p), sittings[p]);
        }
    }

    private static void hears(Document d) {
        String row = "p0;p2;p3;p0;p0;p0;f0,1;f1,2;f2,3;f3,4;f4,5;t5,1,9,0;";
        d.says(20, "HEARS of a TALE and a PERSON: the fewest SITTINGS, each of two FRIENDS,", due -> {
            hearsAre(due, Due.laid(row), 0, 1, 2, 3, 4, NONE);
            hearsAre(due, Due.laid("p0;p0;p0;p0;p0;f0,1;f1,2;f2,3;f0,3;t4,1,1,0;"), 0, 1, 2, 1, NONE);
            hearsAre(due, Due.laid("p0;p0;p0;p0;p0;f3,2;f2,1;f1,0;t4,1,1,13;"), 1, 0, 1, 0, NONE);
        });
        d.says(20, "of whom one CAN TELL it the other (nothing TOLD yet),", due -> {
            hearsAre(due, Due.laid(row.replace("p0;p2;", "p0;p1;")), 0, 1, NONE, NONE, NONE, NONE);
            hearsAre(due, Due.laid(row.replace("t5", "t2")), 0, 1, NONE, NONE, NONE, NONE);
            ChurnTalk hushed = Due.laid(row);
            hushed.hush(0);
            hearsAre(due, hushed, 0, NONE, NONE, NONE, NONE, NONE);
            ChurnTalk told = sat(row);
            told.pass(9);
            due.is("TOLD since they SIT", told.churn(5), 0b1);
            hearsAre(due, told, 0, 0, 1, 2, 3, NONE);
            ChurnTalk telling = sat(row);
            telling.pass(8);
            hearsAre(due, telling, 0, 1, 2, 3, 4, NONE);
        });
        d.says(20, "behind which it KNOWS it (0: it does); none.", due -> {
            hearsAre(due, Due.laid("p1;p0;p0;f0,1;t2,1,1,01;"), 0, 0, NONE);
            hearsAre(due, Due.laid("p1;p0;p0;f0,1;t2,1,1,0;"), 0, NONE, NONE);
            hearsAre(due, Due.laid("p0;p1;p0;f0,1;t2,1,1,0;"), 0, 1, NONE);
        });
    }

    private static void cost(Document d) {
        d.says(21, "COST in n: the TALE that is not HUSHED, of which, were it HUSHED, BEST would still"
                + " BRING most,", due -> {
            // 12 bring 9 by tale 0, 01 bring 6 by tale 1, 23 bring 5 by tale 2.
            ChurnTalk x = Due.laid("p0;p0;p0;p0;f0,1;f1,2;f2,3;t0,9,1,1;t3,6,1,0;t0,5,1,3;");
            due.is("without tale 1 or 2 still 9", x.cost(1, 0), 1);
            x.hush(1);
            due.is("tale 1 is HUSHED", x.cost(1, 0), 2);
            x.hush(2);
            due.is("tale 2, too", x.cost(1, 0), 0);
            // Without the slow tale 1 there are MINUTES for tale 2.
            ChurnTalk slow = Due.laid("p0;p0;p0;f0,1;t2,5,1,1;t2,1,9,0;t2,20,9,0;");
            due.is("more comes without it", slow.cost(9, 0), 1);
            due.is("how much", slow.cost(9, 1), 180);
            slow.sit(0, 1);
            slow.pass(1);
            due.is("it is being told, and not HUSHED", slow.churn(3), 1);
            due.is("were it HUSHED", slow.cost(9, 0), 1);
        });
        d.says(21, "of several the lowest:", due -> {
            due.is("alike", Due.laid("p0;p0;p0;f0,1;t2,7,1,0;t2,7,1,0;").cost(1, 0), 0);
            due.is("neither costs", Due.laid("p3;p3;p0;f0,1;t0,7,1,2;t0,7,1,2;").cost(1, 0), 0);
        });
        d.says(21, "which; how much (no FRIENDS: 0); none.", due -> {
            ChurnTalk x = Due.laid("p0;p0;p0;f0,1;t2,7,1,0;t2,6,1,0;");
            due.is("which", x.cost(60, 0), 1);
            due.is("how much", x.cost(60, 1), 7);
            ChurnTalk strangers = Due.laid(STRANGERS);
            due.is("no FRIENDS: which", strangers.cost(60, 0), 0);
            due.is("no FRIENDS: how much", strangers.cost(60, 1), 0);
            strangers.hush(0);
            due.is("all HUSHED: which", strangers.cost(60, 0), NONE);
            due.is("all HUSHED: how much", strangers.cost(60, 1), NONE);
            due.is("no TALES", Due.laid("p3;p3;f0,1;").cost(60, 0), NONE);
        });
    }
}
