/**
 * Long runs of calls, the same on every machine, on ChurnTalk and on PlainChurn: every answer of
 * both must be alike. Texts with and without faults, numbers in and out of what is told.
 */
public final class ModelTest {
    private static final int RUNS = 160;
    private static final int CALLS = 512;

    private static final Due DUE = new Due();
    private static long seed = 20261119;
    private static ChurnTalk x;
    private static PlainChurn plain;
    private static int calls;

    public static void main(String[] args) {
        for (int run = 0; run < RUNS; run++) {
            x = new ChurnTalk();
            plain = new PlainChurn();
            calls = 0;
            if (run % 8 != 0) {
                writeAll(town(run % 8 == 1));
                both("lay()", x.lay(), plain.lay());
            }
            while (calls < CALLS) {
                ask(run);
            }
        }
        DUE.end();
    }

    private static int below(int bound) {
        seed = seed * 6364136223846793005L + 1442695040888963407L;
        return (int) ((seed >>> 33) % bound);
    }

    /** A number from least to most, now and then one beside them. */
    private static int number(int least, int most) {
        return below(25) == 0 ? least - 2 + below(most - least + 5) : least + below(most - least + 1);
    }

    private static void both(String call, int got, int want) {
        calls++;
        DUE.is(call + " as call " + calls, got, want);
    }

    private static void writeAll(String text) {
        both("wipe()", x.wipe(), plain.wipe());
        for (int i = 0; i < text.length(); i++) {
            both("write", x.write(text.charAt(i)), plain.write(text.charAt(i)));
        }
        both("fault()", x.fault(), plain.fault());
    }

    private static String town(boolean maybeWrong) {
        StringBuilder text = new StringBuilder();
        int persons = 2 + below(5);
        for (int p = 0; p < persons; p++) {
            text.append('p').append(below(4)).append(';');
        }
        for (int f = below(2 * persons); f > 0; f--) {
            int a = below(persons);
            int b = (a + 1 + below(persons - 1)) % persons;
            text.append('f').append(a).append(',').append(b).append(';');
        }
        for (int t = below(10); t > 0; t--) {
            addTale(text, persons);
        }
        if (maybeWrong) {
            text.setCharAt(below(text.length()), "pft0123456789,;x".charAt(below(16)));
        }
        return text.substring(0, Math.min(200, text.length()));
    }

    private static void addTale(StringBuilder text, int persons) {
        int of = below(persons);
        text.append('t').append(of).append(',').append(1 + below(20)).append(',').append(1 + below(9)).append(',');
        int size = text.length();
        for (int p = 0; p < persons; p++) {
            if (p != of && below(3) == 0) {
                text.append(p);
            }
        }
        if (text.length() == size) {
            text.append((of + 1) % persons);
        }
        text.append(';');
    }

    private static int anyPerson() {
        return number(0, Math.max(0, plain.count(0) - 1));
    }

    private static int anyTale() {
        return number(0, Math.max(0, plain.count(1) - 1));
    }

    private static void ask(int run) {
        int kind = below(100);
        if (kind < 35) {
            act();
        } else if (kind < 60) {
            look();
        } else if (kind < 92) {
            comes();
        } else if (kind < 99) {
            later();
        } else if (run % 4 == 0) {
            write();
        }
    }

    private static void act() {
        int a = anyPerson();
        int b = anyPerson();
        int n = below(3) > 0 ? 1 + below(6) : number(1, 60);
        int t = anyTale();
        switch (below(10)) {
            case 0, 1, 2 -> both("sit(" + a + ", " + b + ")", x.sit(a, b), plain.sit(a, b));
            case 3 -> both("stand()", x.stand(), plain.stand());
            case 4, 5, 6, 7 -> both("pass(" + n + ")", x.pass(n), plain.pass(n));
            case 8 -> {
                if (below(3) == 0) {
                    both("hush(" + t + ")", x.hush(t), plain.hush(t));
                }
            }
            default -> both("undo()", x.undo(), plain.undo());
        }
    }

    private static void look() {
        int p = anyPerson();
        int t = anyTale();
        int what = number(0, 5);
        switch (below(4)) {
            case 0 -> both("person(" + p + ", " + what + ")", x.person(p, what), plain.person(p, what));
            case 1 -> both("tale(" + t + ", " + what + ")", x.tale(t, what), plain.tale(t, what));
            case 2 -> both("churn(" + what + ")", x.churn(what), plain.churn(what));
            default -> {
                what = number(0, 9);
                both("count(" + what + ")", x.count(what), plain.count(what));
            }
        }
    }

    private static void comes() {
        int a = anyPerson();
        int b = anyPerson();
        int n = number(1, 60);
        int t = anyTale();
        int what = number(0, 1);
        int h = below(2) == 0 ? number(0, 999) : plain.count(4) + below(200);
        switch (below(9)) {
            case 0 -> both("comes(" + h + ")", x.comes(h), plain.comes(h));
            case 1 -> both("quiet()", x.quiet(), plain.quiet());
            case 2 -> both("brings(" + a + ", " + b + ", " + n + ")", x.brings(a, b, n), plain.brings(a, b, n));
            case 3 -> both("best(" + n + ", " + what + ")", x.best(n, what), plain.best(n, what));
            case 4 -> twos(n);
            case 5 -> both("hears(" + t + ", " + a + ")", x.hears(t, a), plain.hears(t, a));
            case 6 -> both("cost(" + n + ", " + what + ")", x.cost(n, what), plain.cost(n, what));
            case 7 -> said(a, b);
            default -> who(n, what);
        }
    }

    private static void twos(int n) {
        int p = below(4) == 0 ? -1 : anyPerson();
        both("twos(" + n + ", " + p + ")", x.twos(n, p), plain.twos(n, p));
        if (calls < CALLS) {
            both("leave(" + n + ")", x.leave(n), plain.leave(n));
        }
    }

    private static void said(int a, int b) {
        int y = below(3) > 0 ? number(0, 40) : number(0, 180);
        int what = number(0, 1);
        both("said(" + a + ", " + b + ", " + y + ", " + what + ")", x.said(a, b, y, what), plain.said(a, b, y, what));
    }

    private static void who(int n, int what) {
        int y = plain.brings(anyPerson(), anyPerson(), n);
        y = y < 0 ? number(0, 999) : y;
        both("who(" + n + ", " + y + ", " + what + ")", x.who(n, y, what), plain.who(n, y, what));
    }

    private static void later() {
        switch (below(4)) {
            case 0 -> held();
            case 1 -> {
                int z = number(0, 9999);
                int n = number(1, 60);
                int what = number(0, 1);
                both("day(" + z + ", " + n + ", " + what + ")", x.day(z, n, what), plain.day(z, n, what));
            }
            case 2 -> both("keep()", x.keep(), plain.keep());
            default -> both("back()", x.back(), plain.back());
        }
    }

    private static void held() {
        int a = anyPerson();
        int b = anyPerson();
        int n = number(1, 60);
        int h = below(4) == 0 ? number(0, 999) : below(1 + Math.max(0, plain.brings(a, b, n)));
        int tenths = number(0, 10);
        int part = number(0, 1);
        both("held(" + a + ", " + b + ", " + n + ", " + h + ", " + tenths + ", " + part + ")",
                x.held(a, b, n, h, tenths, part), plain.held(a, b, n, h, tenths, part));
    }

    private static void write() {
        switch (below(4)) {
            case 0 -> both("lay()", x.lay(), plain.lay());
            case 1 -> both("wipe()", x.wipe(), plain.wipe());
            case 2 -> both("fault()", x.fault(), plain.fault());
            default -> {
                int letter = number(32, 126);
                both("write(" + letter + ")", x.write(letter), plain.write(letter));
            }
        }
    }
}
