/** Boundary cases of promises 4 and 5: what a TEXT may be, its FAULT, and what is LAID by it. */
public final class TextBoundsTest {
    private static final int NO = Bounds.NO, NONE = Bounds.NONE;
    private static final Bounds BOUNDS = new Bounds();

    private static final String TWO = "p0;p0;";
    private static final String SIX = "p0;p0;p0;p0;p0;p0;";
    /** 200 letters: two PERSONS, 38 times the same two FRIENDS. */
    private static final String FULL_TEXT = TWO + "f00,1;".repeat(4) + "f0,1;".repeat(34);
    private static final String NINE_TALES = TWO + "t0,1,1,1;".repeat(9);
    /** 200 letters: six PERSONS, six pairs of FRIENDS, nine TALES of five who KNOW them. */
    private static final String FULL_TOWN = SIX + "f0,1;f1,2;f2,3;f3,4;f4,5;f5,0;"
            + "t0,20,9,12345;t1,20,9,02345;t2,20,9,01345;t3,20,9,01245;t4,20,9,01235;t5,20,9,01234;"
            + "t0,20,9,12345;".repeat(3) + "f0,1;".repeat(4) + "f00,1;";

    public static void main(String[] args) {
        wholeTexts();
        places();
        personItems();
        friendItems();
        friendsUnlikeAndTold();
        taleItems();
        taleNumbers();
        taleRows();
        howMany();
        layRefused();
        layAnswers();
        layClears();
        layLeavesNothingOfBefore();
        BOUNDS.end(4, 5);
    }

    private static void faultIs(String sentence, String text, int place) {
        BOUNDS.asks(4, sentence + ": " + text, Towns.written(text), x -> x.fault(), place);
    }

    /** Behind two PERSONS, whose items take six letters. */
    private static void isSo(String sentence, String item) {
        faultIs(sentence, TWO + item, NONE);
    }

    private static void isNotSo(String sentence, String item) {
        faultIs(sentence, TWO + item, 6);
    }

    private static void wholeTexts() {
        faultIs("an empty TEXT has no FAULT", "", NONE);
        faultIs("a TEXT of one letter", "p", 0);
        faultIs("the shortest TEXT that is so", "p0;", NONE);
        faultIs("a full TEXT of 200 letters that is so", FULL_TEXT, NONE);
        faultIs("a full TEXT of a full town", FULL_TOWN, NONE);
        faultIs("a full TEXT, its last two letters not so", FULL_TEXT.substring(0, 195) + "p0;;;", 198);
        faultIs("a full TEXT whose last ITEM has no end", FULL_TEXT.substring(0, 195) + "f0,1,", 195);
        faultIs("199 letters: the last ITEM lacks its ;", FULL_TEXT.substring(0, 199), 195);
        faultIs("200 letters that are none of ITEMS", " ".repeat(200), 0);
        Bounds.must("200 letters", FULL_TEXT.length() == 200 && FULL_TOWN.length() == 200);
        BOUNDS.asks(4, "an empty TEXT again behind wipe", () -> {
            ChurnTalk x = Due.written("x");
            x.wipe();
            return x;
        }, x -> x.fault(), NONE);
    }

    private static void places() {
        faultIs("places are told from 0 on", "x0;p0;", 0);
        faultIs("the first letter of the ITEM, not the one that is wrong", "p0;p0;f0,0;", 6);
        faultIs("of two ITEMS not so, the first", "p0;p7;p8;", 3);
        faultIs("the last of several ITEMS", "p0;p1;p2;p3;p4;", 12);
        faultIs("behind the last ITEM one letter more", "p0;p0;x", 6);
        faultIs("behind the last ITEM a ; more", "p0;;", 3);
        faultIs("letter 199, the last place of all", TWO + "f00,1;".repeat(3) + "f0,1;".repeat(35) + "x", 199);
        faultIs("an unknown letter, as if of a person", "q0;", 0);
        faultIs("an upper letter", "P0;", 0);
        faultIs("a blank ahead", " p0;", 0);
        faultIs("a blank between", "p0; p0;", 3);
        faultIs("a blank within", "p 0;", 0);
        faultIs("a ; alone", ";", 0);
        faultIs("a figure alone", "0;", 0);
        faultIs("the lowest letter", " ", 0);
        faultIs("the highest letter", "~", 0);
    }

    private static void personItems() {
        faultIs("KIND 0, the first", "p0;", NONE);
        faultIs("KIND 3, the last", "p3;", NONE);
        faultIs("KIND 4 is none", "p4;", 0);
        faultIs("KIND 9 is none", "p9;", 0);
        faultIs("KIND 10 is none", "p10;", 0);
        faultIs("KIND 99 is none", "p99;", 0);
        faultIs("two figures: 03 is 3", "p03;", NONE);
        faultIs("two figures: 04 is 4", "p04;", 0);
        faultIs("three figures are no number", "p003;", 0);
        faultIs("no figure is no number", "p;", 0);
        faultIs("a letter below the figures", "p/;", 0);
        faultIs("a letter above the figures", "p:;", 0);
        faultIs("no sign", "p-1;", 0);
        faultIs("no sign, even +", "p+1;", 0);
        faultIs("one number too many", "p0,0;", 0);
        faultIs("an empty second part", "p0,;", 0);
        faultIs("without its ;", "p0", 0);
        faultIs("another letter for ;", "p0.", 0);
        faultIs("a , for ;", "p0,p0;", 0);
    }

    private static void friendItems() {
        isSo("FRIENDS by single figures", "f0,1;");
        isSo("FRIENDS by two figures", "f00,01;");
        isNotSo("three figures ahead", "f000,1;");
        isNotSo("three figures behind", "f0,001;");
        isNotSo("nobody", "f;");
        isNotSo("one alone", "f0;");
        isNotSo("one and none", "f0,;");
        isNotSo("none and one", "f,1;");
        isNotSo("not parted", "f01;");
        isNotSo("not parted, two figures ahead", "f001;");
        isNotSo("parted by ;", "f0;1;");
        isNotSo("parted by a blank", "f0 1;");
        isNotSo("parted twice", "f0,,1;");
        isNotSo("three", "f0,1,1;");
        isNotSo("without its ;", "f0,1");
        isNotSo("another letter for ;", "f0,1:");
    }

    private static void friendsUnlikeAndTold() {
        isNotSo("alike, the first", "f0,0;");
        isNotSo("alike, the last", "f1,1;");
        isNotSo("alike by one and two figures", "f0,00;");
        isSo("the last ahead", "f1,0;");
        isNotSo("not told: behind the last one", "f0,2;");
        isNotSo("not told: ahead", "f2,0;");
        isNotSo("not told: both", "f2,3;");
        isNotSo("not told: 99", "f0,99;");
        faultIs("told behind is not told ahead", "p0;f0,1;p0;", 3);
        faultIs("told ahead of nobody", "f0,1;p0;p0;", 0);
        faultIs("the last of six", SIX + "f0,5;", NONE);
        faultIs("behind the last of six", SIX + "f0,6;", 18);
        isSo("told once more", "f0,1;f0,1;");
        isSo("told once more the other way round", "f0,1;f1,0;");
    }

    private static void taleItems() {
        isSo("a TALE", "t0,1,1,1;");
        isSo("a TALE by two figures", "t00,01,01,1;");
        isNotSo("no part", "t;");
        isNotSo("one part", "t0;");
        isNotSo("two parts", "t0,1;");
        isNotSo("three parts", "t0,1,1;");
        isNotSo("five parts", "t0,1,1,1,1;");
        isNotSo("an empty first part", "t,1,1,1;");
        isNotSo("an empty second part", "t0,,1,1;");
        isNotSo("an empty third part", "t0,1,,1;");
        isNotSo("an empty row", "t0,1,1,;");
        isNotSo("the first not parted", "t0.1,1,1;");
        isNotSo("the second not parted", "t0,1.1,1;");
        isNotSo("the third not parted", "t0,1,1.1;");
        isNotSo("the first not parted, two figures ahead", "t001,1,1;");
        isNotSo("the second not parted, two figures ahead", "t0,011,1;");
        isNotSo("the third not parted, two figures ahead", "t0,1,011;");
        isNotSo("without its ;", "t0,1,1,1");
        isNotSo("another letter for ;", "t0,1,1,1,");
        isNotSo("three figures first", "t000,1,1,1;");
        isNotSo("three figures second", "t0,001,1,1;");
        isNotSo("three figures third", "t0,1,001,1;");
    }

    private static void taleNumbers() {
        isSo("of the last PERSON", "t1,1,1,0;");
        isNotSo("of one not told", "t2,1,1,0;");
        isNotSo("of 99", "t99,1,1,0;");
        faultIs("of one told behind", "p0;t1,1,1,0;p0;", 3);
        isNotSo("ILL by 0, too small", "t0,0,1,1;");
        isSo("ILL by 1, the least", "t0,1,1,1;t0,1,1,1;");
        isSo("ILL by 20, the most", "t0,20,1,1;");
        isNotSo("ILL by 21, too large", "t0,21,1,1;");
        isNotSo("ILL by 99, too large", "t0,99,1,1;");
        isNotSo("no MINUTES, too few", "t0,1,0,1;");
        isNotSo("no MINUTES by two figures", "t0,1,00,1;");
        isSo("nine MINUTES, the most", "t0,1,9,1;");
        isSo("nine MINUTES by two figures", "t0,1,09,1;");
        isNotSo("ten MINUTES, too many", "t0,1,10,1;");
        isNotSo("99 MINUTES, too many", "t0,1,99,1;");
    }

    private static void taleRows() {
        isNotSo("a row of none", "t0,1,1,;t0,1,1,1;");
        isNotSo("Q in the row", "t0,1,1,0;");
        isNotSo("Q in the row behind another one", "t0,1,1,10;");
        isNotSo("Q in the row ahead of another one", "t0,1,1,01;");
        isNotSo("one twice, the last", "t0,1,1,11;");
        isNotSo("one twice, the first", "t1,1,1,00;");
        isNotSo("one not told", "t0,1,1,2;");
        isNotSo("one not told, of the last PERSON", "t1,1,1,2;");
        isNotSo("one not told behind one told", "t0,1,1,12;");
        isNotSo("9", "t0,1,1,9;");
        isNotSo("a row parted", "t0,1,1,1,;");
        faultIs("a row of one: the last of six", SIX + "t0,1,1,5;", NONE);
        faultIs("a row of five: all but Q", SIX + "t0,1,1,12345;", NONE);
        faultIs("a row in any order", SIX + "t0,1,1,53142;", NONE);
        faultIs("a row of six: Q, too", SIX + "t0,1,1,123450;", 18);
        faultIs("a row of six: one twice", SIX + "t0,1,1,123451;", 18);
        faultIs("one twice, not next to the other", SIX + "t0,1,1,131;", 18);
        faultIs("6 of six is not told", SIX + "t0,1,1,6;", 18);
        faultIs("one told behind", "p0;p0;t0,1,1,2;p0;", 6);
        faultIs("figures of a row are single ones: 1 and 2", "p0;p0;p0;t0,1,1,12;", NONE);
        faultIs("a row of more letters than there can be PERSONS", SIX + "t0,1,1," + "1".repeat(170) + ";", 18);
        BOUNDS.is(4, "KNOWN by the PERSONS 1 and 2, not by a 12th", Towns.written("p0;p0;p0;t0,1,1,12;"), x -> {
            x.lay();
            return x.tale(0, 4);
        }, 0b110);
    }

    private static void howMany() {
        faultIs("six PERSONS", SIX, NONE);
        faultIs("a seventh PERSON", SIX + "p0;", 18);
        faultIs("a seventh PERSON behind a pair of FRIENDS", SIX + "f0,1;p0;", 23);
        faultIs("a seventh PERSON that would not be so either", SIX + "p4;", 18);
        faultIs("nine TALES", NINE_TALES, NONE);
        faultIs("a tenth TALE", NINE_TALES + "t0,1,1,1;", 6 + 81);
        faultIs("a tenth TALE behind a PERSON", NINE_TALES + "p0;t0,1,1,1;", 6 + 81 + 3);
        faultIs("PERSONS behind nine TALES", NINE_TALES + "p0;p0;p0;p0;", NONE);
        faultIs("FRIENDS as often as there is room", FULL_TEXT, NONE);
    }

    private static ChurnTalk rewritten(ChurnTalk x, String text) {
        Due.rewrite(x, text);
        return x;
    }

    /** Things under way in a small town, and this TEXT written behind. */
    private static Bounds.Way lively(String text) {
        return () -> rewritten(Towns.lively(), text);
    }

    private static void layRefused() {
        Bounds b = BOUNDS;
        b.refuses(5, "an empty TEXT", lively(""), x -> x.lay(), NO);
        b.refuses(5, "a FAULT at the first letter", lively("x"), x -> x.lay(), NO);
        b.refuses(5, "a FAULT in the only ITEM", lively("p4;"), x -> x.lay(), NO);
        b.refuses(5, "a FAULT behind PERSONS that are so", lively("p0;p0;f0,1;f0,2;"), x -> x.lay(), NO);
        b.refuses(5, "a last ITEM without its ;", lively("p0;p0;f0,1"), x -> x.lay(), NO);
        b.refuses(5, "a seventh PERSON", lively(SIX + "p0;"), x -> x.lay(), NO);
        b.refuses(5, "a tenth TALE", lively(NINE_TALES + "t0,1,1,1;"), x -> x.lay(), NO);
        b.refuses(5, "a TEXT full of what is none of ITEMS", Towns.written("~".repeat(200)), x -> x.lay(), NO);
        b.refuses(5, "FAULT asked ahead makes no difference", lively("p0;x"), x -> {
            x.fault();
            return x.lay();
        }, NO);
    }

    private static void layAnswers() {
        Bounds b = BOUNDS;
        b.is(5, "one PERSON, the fewest", lively("p0;"), x -> x.lay(), 1);
        b.is(5, "six PERSONS, the most", lively(SIX), x -> x.lay(), 6);
        b.is(5, "a full TEXT", lively(FULL_TEXT), x -> x.lay(), 2);
        b.is(5, "LAID twice", lively(TWO), x -> x.lay() + 10 * x.lay(), 22);
        b.run(5, "a full town: six PERSONS, six pairs, nine TALES, 200 letters", due -> {
            ChurnTalk x = Due.written(FULL_TOWN);
            int[] counts = {6, 9, 6, 0, 0, 0, 9 * 5, 0, 0, 200};
            due.is("lay()", x.lay(), 6);
            for (int what = 0; what < counts.length; what++) {
                due.is("count(" + what + ")", x.count(what), counts[what]);
            }
            due.is("the last one's FRIENDS", x.person(5, 1), 0b010001);
            due.is("ILL by the last TALE", x.tale(8, 1), 20);
        });
        b.run(5, "an empty town but for one PERSON", due -> {
            ChurnTalk x = Due.laid("p3;");
            int[] counts = {1, 0, 0, 0, 0, 0, 0, 0, 0, 3};
            for (int what = 0; what < counts.length; what++) {
                due.is("count(" + what + ")", x.count(what), counts[what]);
            }
            due.is("FRIENDS", x.person(0, 1), 0);
        });
    }

    /** What stands once the lively town's own TEXT is laid anew. */
    private static void layClears() {
        Bounds b = BOUNDS;
        b.is(5, "MINUTE 0", () -> again(Towns.lively()), x -> x.count(3), 0);
        b.is(5, "no BUTTER", () -> again(Towns.lively()), x -> x.count(4), 0);
        b.is(5, "nobody SITS", () -> again(Towns.lively()), x -> x.churn(0), NONE);
        b.is(5, "nobody SITS: of each PERSON", () -> again(Towns.lively()), x -> x.person(0, 3), 0);
        b.is(5, "nothing HUSHED", () -> again(Towns.lively()), x -> x.count(5), 0);
        b.is(5, "nothing HUSHED: of each TALE", () -> again(Towns.lively()), x -> x.tale(2, 3), 0);
        b.is(5, "nothing UNDONE: count", () -> again(Towns.lively()), x -> x.count(7), 0);
        b.is(5, "nothing UNDONE: undo", () -> again(Towns.lively()), x -> x.undo(), NO);
        b.is(5, "nothing KEPT: count", () -> again(Towns.lively()), x -> x.count(8), 0);
        b.is(5, "nothing KEPT: back", () -> again(Towns.lively()), x -> x.back(), NO);
        b.is(5, "what was heard is not known any more", () -> again(Towns.stood()), x -> x.person(0, 2), 0b001);
        b.is(5, "THE TEXT stays", () -> again(Towns.lively()), x -> x.count(9), Towns.FIVE.length());
        b.run(5, "all is as when it was LAID first", due -> {
            due.same("all", Trace.of(again(Towns.lively())), Trace.of(Due.laid(Towns.FIVE)));
        });
        b.run(5, "more comes behind THE TEXT that stays", due -> {
            ChurnTalk x = Due.laid(TWO);
            due.is("write", x.write('p'), 7);
            due.is("lay(), the ITEM not so yet", x.lay(), NO);
            x.write('3');
            x.write(';');
            due.is("lay()", x.lay(), 3);
        });
        b.run(5, "what was full is empty: eight UNDONE, two KEPT", due -> {
            ChurnTalk x = Due.laid(Towns.FIVE);
            for (int k = 0; k < 9; k++) {
                x.pass(1);
            }
            x.keep();
            x.keep();
            x.lay();
            due.same("all", Trace.of(x), Trace.of(Due.laid(Towns.FIVE)));
        });
    }

    private static ChurnTalk again(ChurnTalk x) {
        x.lay();
        return x;
    }

    private static void layLeavesNothingOfBefore() {
        Bounds b = BOUNDS;
        b.run(5, "of a full town nothing stays in a small one", due -> {
            ChurnTalk x = Due.laid(FULL_TOWN);
            Due.rewrite(x, "p0;p0;p0;p0;p0;p0;t2,1,1,3;");
            x.lay();
            due.same("all", Trace.of(x), Trace.of(Due.laid("p0;p0;p0;p0;p0;p0;t2,1,1,3;")));
        });
        b.run(5, "of a small town nothing stays in a full one", due -> {
            ChurnTalk x = Due.laid("p3;");
            Due.rewrite(x, FULL_TOWN);
            x.lay();
            due.same("all", Trace.ofNow(x), Trace.ofNow(Due.laid(FULL_TOWN)));
        });
        b.run(5, "of whom the TALES of before were is forgotten, however often LAID", due -> {
            ChurnTalk x = new ChurnTalk();
            String[] towns = {"t1,1,1,0;", "t0,1,1,1;", "t2,1,1,01;", "t1,1,1,2;"};
            int[] toTell = {0b0, 0b0, 0b1, 0b0};
            int[] toBeTold = {0b0, 0b0, 0b1, 0b0};
            for (int k = 0; k < 8; k++) {
                Due.rewrite(x, "p0;p0;p0;f0,1;" + towns[k % 4]);
                due.is("lay() " + k, x.lay(), 3);
                due.is("0 to 1 " + k, x.sit(0, 1), toTell[k % 4]);
                x.stand();
                due.is("1 to 0 " + k, x.sit(1, 0), toBeTold[k % 4]);
            }
        });
        b.run(5, "of a TEXT with a FAULT nothing stays", due -> {
            ChurnTalk x = Due.written(FULL_TOWN.substring(0, 199));
            x.lay();
            Due.rewrite(x, TWO);
            x.lay();
            due.same("all", Trace.of(x), Trace.of(Due.laid(TWO)));
        });
    }
}
