/**
 * An object, and the document written once more beside it: both are asked the same, and must answer
 * alike. What is asked is drawn by a seed, so that it is the same on every machine.
 */
final class Twin {
    /** So many calls an object is used for. */
    static final int CALLS = 512;

    private final Due due;
    private final ChurnTalk x = new ChurnTalk();
    private final PlainChurn plain = new PlainChurn();
    private long seed;
    private int calls;

    Twin(Due due, long seed) {
        this.due = due;
        this.seed = seed;
    }

    boolean hasCalls() {
        return calls < CALLS;
    }

    int calls() {
        return calls;
    }

    int below(int bound) {
        seed = seed * 6364136223846793005L + 1442695040888963407L;
        return (int) ((seed >>> 33) % bound);
    }

    /** A number from least to most, now and then one beside them. */
    private int number(int least, int most) {
        return below(25) == 0 ? least - 2 + below(most - least + 5) : least + below(most - least + 1);
    }

    private void both(String call, int got, int want) {
        calls++;
        due.is(call + " as call " + calls, got, want);
    }

    // ---- texts

    /** A town of so many persons and tales at most, told in 200 letters at most. */
    String town(int mostPersons, int mostTales) {
        StringBuilder text = new StringBuilder();
        int persons = 2 + below(mostPersons - 1);
        for (int p = 0; p < persons; p++) {
            text.append('p').append(below(4)).append(';');
        }
        for (int f = below(2 * persons); f > 0; f--) {
            int a = below(persons);
            int b = (a + 1 + below(persons - 1)) % persons;
            text.append('f').append(a).append(',').append(b).append(';');
        }
        for (int t = below(mostTales + 1); t > 0; t--) {
            addTale(text, persons);
        }
        return text.substring(0, Math.min(200, text.length()));
    }

    private void addTale(StringBuilder text, int persons) {
        int of = below(persons);
        text.append('t').append(of).append(',').append(1 + below(20)).append(',').append(1 + below(9)).append(',');
        int size = text.length();
        for (int p = 0; p < persons; p++) {
            if (p != of && below(3) == 0) {
                text.append(p);
            }
        }
        if (text.length() == size) {
            text.append((of + 1) % persons);
        }
        text.append(';');
    }

    /** The text with one letter changed: most often a FAULT comes by it. */
    String spoiled(String text) {
        StringBuilder spoiled = new StringBuilder(text);
        spoiled.setCharAt(below(text.length()), "pft0123456789,;x".charAt(below(16)));
        return spoiled.toString();
    }

    void write(int letter) {
        both("write(" + letter + ")", x.write(letter), plain.write(letter));
    }

    void wipe() {
        both("wipe()", x.wipe(), plain.wipe());
    }

    void fault() {
        both("fault()", x.fault(), plain.fault());
    }

    void lay() {
        both("lay()", x.lay(), plain.lay());
    }

    /** Anything that a TEXT can be asked for or told. */
    void anyText() {
        switch (below(4)) {
            case 0 -> lay();
            case 1 -> wipe();
            case 2 -> fault();
            default -> write(number(32, 126));
        }
    }

    // ---- what stands, and acts

    private int anyPerson() {
        return number(0, Math.max(0, plain.count(0) - 1));
    }

    private int anyTale() {
        return number(0, Math.max(0, plain.count(1) - 1));
    }

    void anyAct() {
        int a = anyPerson();
        int b = anyPerson();
        int n = below(3) > 0 ? 1 + below(6) : number(1, 60);
        int t = anyTale();
        switch (below(10)) {
            case 0, 1, 2 -> both("sit(" + a + ", " + b + ")", x.sit(a, b), plain.sit(a, b));
            case 3 -> both("stand()", x.stand(), plain.stand());
            case 4, 5, 6, 7 -> both("pass(" + n + ")", x.pass(n), plain.pass(n));
            case 8 -> {
                if (below(3) == 0) {
                    both("hush(" + t + ")", x.hush(t), plain.hush(t));
                }
            }
            default -> undo();
        }
    }

    void undo() {
        both("undo()", x.undo(), plain.undo());
    }

    void keep() {
        both("keep()", x.keep(), plain.keep());
    }

    void back() {
        both("back()", x.back(), plain.back());
    }

    void anyLook() {
        int p = anyPerson();
        int t = anyTale();
        int what = number(0, 5);
        switch (below(4)) {
            case 0 -> both("person(" + p + ", " + what + ")", x.person(p, what), plain.person(p, what));
            case 1 -> both("tale(" + t + ", " + what + ")", x.tale(t, what), plain.tale(t, what));
            case 2 -> both("churn(" + what + ")", x.churn(what), plain.churn(what));
            default -> count(number(0, 9));
        }
    }

    void count(int what) {
        both("count(" + what + ")", x.count(what), plain.count(what));
    }

    // ---- questions

    void anyQuestion() {
        int a = anyPerson();
        int b = anyPerson();
        int n = number(1, 60);
        int t = anyTale();
        int what = number(0, 1);
        int h = below(2) == 0 ? number(0, 999) : plain.count(4) + below(200);
        switch (below(9)) {
            case 0 -> both("comes(" + h + ")", x.comes(h), plain.comes(h));
            case 1 -> both("quiet()", x.quiet(), plain.quiet());
            case 2 -> both("brings(" + a + ", " + b + ", " + n + ")", x.brings(a, b, n), plain.brings(a, b, n));
            case 3 -> both("best(" + n + ", " + what + ")", x.best(n, what), plain.best(n, what));
            case 4 -> twos(n);
            case 5 -> both("hears(" + t + ", " + a + ")", x.hears(t, a), plain.hears(t, a));
            case 6 -> both("cost(" + n + ", " + what + ")", x.cost(n, what), plain.cost(n, what));
            case 7 -> said(a, b);
            default -> who(n, what);
        }
    }

    private void twos(int n) {
        int p = below(4) == 0 ? -1 : anyPerson();
        both("twos(" + n + ", " + p + ")", x.twos(n, p), plain.twos(n, p));
        if (hasCalls()) {
            both("leave(" + n + ")", x.leave(n), plain.leave(n));
        }
    }

    private void said(int a, int b) {
        int y = below(3) > 0 ? number(0, 40) : number(0, 180);
        int what = number(0, 1);
        both("said(" + a + ", " + b + ", " + y + ", " + what + ")", x.said(a, b, y, what), plain.said(a, b, y, what));
    }

    private void who(int n, int what) {
        int y = plain.brings(anyPerson(), anyPerson(), n);
        y = y < 0 ? number(0, 999) : y;
        both("who(" + n + ", " + y + ", " + what + ")", x.who(n, y, what), plain.who(n, y, what));
    }

    void day() {
        int z = number(0, 9999);
        int n = number(1, 60);
        int what = number(0, 1);
        both("day(" + z + ", " + n + ", " + what + ")", x.day(z, n, what), plain.day(z, n, what));
    }

    void held() {
        int a = anyPerson();
        int b = anyPerson();
        int n = number(1, 60);
        int h = below(4) == 0 ? number(0, 999) : below(1 + Math.max(0, plain.brings(a, b, n)));
        int tenths = number(0, 10);
        int part = number(0, 1);
        both("held(" + a + ", " + b + ", " + n + ", " + h + ", " + tenths + ", " + part + ")",
                x.held(a, b, n, h, tenths, part), plain.held(a, b, n, h, tenths, part));
    }
}
