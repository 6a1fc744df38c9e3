/** Compares answers with what is due, and tells at the end whether all were. */
final class Due {
    private int wrong;
    private int asked;

    void is(String call, long got, long want) {
        same(call, String.valueOf(got), String.valueOf(want));
    }

    void same(String what, String got, String want) {
        asked++;
        if (!got.equals(want)) {
            wrong++;
            System.out.println(what + " answered " + got + ", due is " + want);
        }
    }

    /** Whether something was asked, and all answers were as due. */
    boolean isMet() {
        return wrong == 0 && asked > 0;
    }

    /** Ends the program: with 1 if an answer was not as due, or if nothing was asked. */
    void end() {
        System.out.println(wrong + " of " + asked + " answers are not as due");
        System.exit(isMet() ? 0 : 1);
    }

    static ChurnTalk written(String text) {
        ChurnTalk x = new ChurnTalk();
        rewrite(x, text);
        return x;
    }

    static void rewrite(ChurnTalk x, String text) {
        x.wipe();
        for (int i = 0; i < text.length(); i++) {
            x.write(text.charAt(i));
        }
    }

    /** A new object in which the text is laid. */
    static ChurnTalk laid(String text) {
        ChurnTalk x = written(text);
        if (x.lay() < 1) {
            throw new IllegalStateException("not laid: " + text);
        }
        return x;
    }
}
