/** Texts that several tests lay, and objects that have come some way in them. */
final class Towns {
    /** The text that is laid at first. */
    static final String FIRST = "p0;p3;p1;p2;p3;p0;f0,1;f1,4;f0,2;f2,3;f3,4;f4,5;f0,5;t3,6,2,0;t5,9,3,01;"
            + "t0,4,1,4;t2,12,4,1;t1,3,2,35;t4,7,1,0;t0,8,3,3;";

    /**
     * 0 PLAIN, 1 PARSON, 2 and 3 YOUNG, 4 WIDOW. By hand, minute by minute:
     * 01: 0 tells tale 0 (5, 5), 1 tells tale 1 by half of 7, cut (3, 3, 3), then silence: 19.
     * 10: 1 tells tale 0 (2, 2), 0 has none, 1 tells tale 1 (3, 3, 3): 13.
     * 12 and 21: 1 tells tale 1 (3, 3, 3) and tale 2 (nine times 10), 2 has none: 99.
     * 23 and 32: silence of two YOUNG ones, 10 a minute.
     * 04 and 40: 0 tells tale 0 (5, 5), 4 tells none: 10.
     */
    static final String FIVE = "p0;p2;p3;p3;p1;f0,1;f2,3;f1,2;f0,4;t2,5,2,01;t3,7,3,1;t0,20,9,14;";

    /**
     * The town that README.md uses: 0 PLAIN, 1 PARSON, 2 and 3 YOUNG. By hand, minute by minute:
     * 01 and 10: 0 tells tale 0 (5, 5), 1 has none, as tale 1 is of 0: 10.
     * 12 and 21: 1 tells tale 1 by half of 9, cut (4), 2 has none: 4.
     * 23 and 32: silence of two YOUNG ones, 10 a minute.
     */
    static final String LITTLE = "p0;p2;p3;p3;f0,1;f1,2;f2,3;t3,5,2,0;t0,9,1,1;";

    /**
     * Six persons, nine tales. 05 and 50: 0 tells tale 0 (1) and then tales 1 to 7 (2 each), one a
     * minute, 5 has none: 15. 45 and 54: 4 knows tale 8 alone, which is of 5: 0.
     */
    static final String SIX = "p0;p0;p2;p3;p0;p3;f0,5;f4,5;t1,1,1,0;" + "t1,2,1,0;".repeat(7) + "t5,20,9,4;";

    /** A row of four: in a minute or more 01 bring 6, 12 bring 9, 23 bring 6, in either order. */
    static final String ROW = "p0;p0;p0;p0;f0,1;f1,2;f2,3;t3,6,1,0;t0,9,1,1;t0,6,1,3;";

    /** Two FRIENDS, and one of whom 0 knows nine tales of ILL 1 that take 9 MINUTES each. */
    static final String NINE = "p0;p0;p0;f0,1;" + "t2,1,9,0;".repeat(9);

    private Towns() {
    }

    static Bounds.Way laid(String text) {
        return () -> Due.laid(text);
    }

    static Bounds.Way written(String text) {
        return () -> Due.written(text);
    }

    /**
     * FIVE, in the midst of things: a minute alone, 0 and 1 sit, tale 0 is being told by 0 (a minute
     * to go, 5 butter), tale 2 is hushed; four acts can be undone, one is kept.
     */
    static ChurnTalk lively() {
        ChurnTalk x = Due.laid(FIVE);
        x.pass(1);
        x.keep();
        x.hush(2);
        x.sit(0, 1);
        x.pass(1);
        return x;
    }

    /** FIVE, nobody sitting: 0 and 1 have told two tales (19 butter in 5 minutes) and stand. */
    static ChurnTalk stood() {
        ChurnTalk x = Due.laid(FIVE);
        x.sit(0, 1);
        x.pass(5);
        x.keep();
        x.stand();
        return x;
    }

    /** ILL by 9 of 0, HUSHED, and ILL by 5 of 1: 0 and 1 sit, 0 being to tell. */
    static ChurnTalk hushedAndSat() {
        ChurnTalk x = Due.laid("p0;p0;p0;f0,1;t2,9,2,0;t2,5,2,1;");
        x.hush(0);
        x.sit(0, 1);
        return x;
    }
}
