import java.math.BigInteger;
import java.util.ArrayDeque;
import java.util.ArrayList;
import java.util.Deque;
import java.util.HashSet;
import java.util.List;
import java.util.Set;
import java.util.TreeSet;
import java.util.regex.Matcher;
import java.util.regex.Pattern;

/**
 * The document once more, in the slowest and plainest way, minute by minute and way by way, for
 * ModelTest to compare with. Nothing of it is taken from ChurnTalk.
 */
final class PlainChurn {
    private static final int BAD = -1, NO = -2, FULL = -3, NONE = -4;
    private static final Pattern ITEM = Pattern.compile(
            "p(\\d\\d?);|f(\\d\\d?),(\\d\\d?);|t(\\d\\d?),(\\d\\d?),(\\d\\d?),(\\d+);");

    private static final class Tale {
        int of;
        int ill;
        int minutes;
        Set<Integer> first = new TreeSet<>();
    }

    /** What stands now. */
    private static final class Now {
        List<Set<Integer>> knows = new ArrayList<>();
        Set<Integer> hushed = new TreeSet<>();
        Set<Integer> told = new TreeSet<>();
        int a = -1;
        int b = -1;
        int teller = -1;
        int telling = -1;
        int toGo;
        int minutes;
        int butter;

        Now copy() {
            Now c = new Now();
            for (Set<Integer> known : knows) {
                c.knows.add(new TreeSet<>(known));
            }
            c.hushed.addAll(hushed);
            c.told.addAll(told);
            c.a = a;
            c.b = b;
            c.teller = teller;
            c.telling = telling;
            c.toGo = toGo;
            c.minutes = minutes;
            c.butter = butter;
            return c;
        }
    }

    private String text = "";
    private List<Integer> kinds = new ArrayList<>();
    private Set<String> friends = new HashSet<>();
    private List<Tale> tales = new ArrayList<>();
    private List<Integer> readKinds;
    private Set<String> readFriends;
    private List<Tale> readTales;
    private Now now = new Now();
    private Deque<Now> past = new ArrayDeque<>();
    private Deque<Now> kept = new ArrayDeque<>();

    PlainChurn() {
        layText("p0;p3;p1;p2;p3;p0;f0,1;f1,4;f0,2;f2,3;f3,4;f4,5;f0,5;t3,6,2,0;t5,9,3,01;t0,4,1,4;"
                + "t2,12,4,1;t1,3,2,35;t4,7,1,0;t0,8,3,3;");
        text = "";
    }

    void layText(String told) {
        text = told;
        if (lay() < 1) {
            throw new IllegalStateException(told);
        }
    }

    // ---- towns

    int write(int letter) {
        if (letter < 32 || letter > 126) {
            return BAD;
        }
        if (text.length() == 200) {
            return FULL;
        }
        text += (char) letter;
        return text.length();
    }

    int wipe() {
        int length = text.length();
        text = "";
        return length;
    }

    int fault() {
        readKinds = new ArrayList<>();
        readFriends = new HashSet<>();
        readTales = new ArrayList<>();
        int place = 0;
        while (place < text.length()) {
            Matcher item = ITEM.matcher(text).region(place, text.length());
            if (!item.lookingAt() || !readItem(item)) {
                return place;
            }
            place = item.end();
        }
        return NONE;
    }

    private boolean readItem(Matcher item) {
        if (item.group(1) != null) {
            readKinds.add(Integer.valueOf(item.group(1)));
            return readKinds.size() <= 6 && readKinds.get(readKinds.size() - 1) <= 3;
        }
        if (item.group(2) != null) {
            int a = Integer.parseInt(item.group(2));
            int b = Integer.parseInt(item.group(3));
            readFriends.add(a + "-" + b);
            readFriends.add(b + "-" + a);
            return a != b && a < readKinds.size() && b < readKinds.size();
        }
        Tale tale = new Tale();
        tale.of = Integer.parseInt(item.group(4));
        tale.ill = Integer.parseInt(item.group(5));
        tale.minutes = Integer.parseInt(item.group(6));
        boolean isSo = tale.of < readKinds.size() && tale.ill >= 1 && tale.ill <= 20
                && tale.minutes >= 1 && tale.minutes <= 9;
        for (char figure : item.group(7).toCharArray()) {
            int p = figure - '0';
            isSo = isSo && p < readKinds.size() && p != tale.of && tale.first.add(p);
        }
        readTales.add(tale);
        return isSo && readTales.size() <= 9;
    }

    int lay() {
        if (fault() != NONE || readKinds.isEmpty()) {
            return NO;
        }
        kinds = readKinds;
        friends = readFriends;
        tales = readTales;
        now = new Now();
        for (int p = 0; p < kinds.size(); p++) {
            Set<Integer> known = new TreeSet<>();
            for (int t = 0; t < tales.size(); t++) {
                if (tales.get(t).first.contains(p)) {
                    known.add(t);
                }
            }
            now.knows.add(known);
        }
        past.clear();
        kept.clear();
        return kinds.size();
    }

    private static int bits(Iterable<Integer> numbers) {
        int sum = 0;
        for (int number : numbers) {
            sum += 1 << number;
        }
        return sum;
    }

    private boolean isPerson(int p) {
        return p >= 0 && p < kinds.size();
    }

    private boolean isTale(int t) {
        return t >= 0 && t < tales.size();
    }

    private boolean areFriends(int a, int b) {
        return friends.contains(a + "-" + b);
    }

    private boolean sits() {
        return now.a >= 0;
    }

    int person(int p, int what) {
        if (!isPerson(p) || what < 0 || what > 3) {
            return BAD;
        }
        if (what == 0) {
            return kinds.get(p);
        }
        if (what == 1) {
            List<Integer> list = new ArrayList<>();
            for (int q = 0; q < kinds.size(); q++) {
                if (areFriends(p, q)) {
                    list.add(q);
                }
            }
            return bits(list);
        }
        return what == 2 ? bits(now.knows.get(p)) : p == now.a || p == now.b ? 1 : 0;
    }

    private Set<Integer> knowers(int t) {
        Set<Integer> knowers = new TreeSet<>();
        for (int p = 0; p < kinds.size(); p++) {
            if (now.knows.get(p).contains(t)) {
                knowers.add(p);
            }
        }
        return knowers;
    }

    int tale(int t, int what) {
        if (!isTale(t) || what < 0 || what > 4) {
            return BAD;
        }
        int[] answers = {tales.get(t).of, tales.get(t).ill, tales.get(t).minutes,
            now.hushed.contains(t) ? 1 : 0, bits(knowers(t))};
        return answers[what];
    }

    int churn(int what) {
        if (what < 0 || what > 5) {
            return BAD;
        }
        if (!sits()) {
            return NONE;
        }
        int[] answers = {now.a, now.b, now.teller, now.telling < 0 ? NONE : now.telling,
            now.telling < 0 ? 0 : now.toGo, bits(now.told)};
        return answers[what];
    }

    // ---- acts

    private static Set<Integer> tellable(List<Integer> kinds, List<Tale> tales, Now s, int a, int b) {
        Set<Integer> can = new TreeSet<>();
        for (int t = 0; t < tales.size(); t++) {
            if (s.knows.get(a).contains(t) && kinds.get(a) != 1 && !s.hushed.contains(t)
                    && tales.get(t).of != b && !s.told.contains(t)) {
                can.add(t);
            }
        }
        return can;
    }

    private Set<Integer> canTell(Now s, int a, int b) {
        return tellable(kinds, tales, s, a, b);
    }

    private void remember() {
        past.addLast(now.copy());
        if (past.size() > 8) {
            past.removeFirst();
        }
    }

    private static void seat(Now s, int a, int b) {
        s.a = a;
        s.b = b;
        s.teller = a;
        s.telling = -1;
        s.told.clear();
    }

    private static void rise(Now s) {
        s.a = -1;
        s.b = -1;
        s.teller = -1;
        s.telling = -1;
        s.told.clear();
    }

    private boolean isSilent(Now s) {
        return s.telling < 0 && canTell(s, s.a, s.b).isEmpty() && canTell(s, s.b, s.a).isEmpty();
    }

    private void minute(Now s) {
        s.minutes++;
        if (s.a < 0) {
            return;
        }
        if (isSilent(s)) {
            if (kinds.get(s.a) == 3 && kinds.get(s.b) == 3) {
                s.butter += 10;
            }
            return;
        }
        int listener = s.a + s.b - s.teller;
        if (s.telling < 0) {
            Set<Integer> can = canTell(s, s.teller, listener);
            if (can.isEmpty()) {
                s.teller = listener;
                listener = s.a + s.b - s.teller;
                can = canTell(s, s.teller, listener);
            }
            s.telling = can.iterator().next();
            s.toGo = tales.get(s.telling).minutes;
        }
        int ill = tales.get(s.telling).ill;
        s.butter += kinds.get(s.teller) == 2 ? ill / 2 : ill;
        s.toGo--;
        if (s.toGo == 0) {
            s.told.add(s.telling);
            s.knows.get(listener).add(s.telling);
            s.telling = -1;
            s.teller = listener;
        }
    }

    int sit(int a, int b) {
        if (!isPerson(a) || !isPerson(b) || a == b) {
            return BAD;
        }
        if (sits() || !areFriends(a, b)) {
            return NO;
        }
        remember();
        seat(now, a, b);
        return bits(canTell(now, a, b));
    }

    int stand() {
        if (!sits()) {
            return NO;
        }
        remember();
        int told = now.told.size();
        rise(now);
        return told;
    }

    int pass(int n) {
        if (n < 1 || n > 60) {
            return BAD;
        }
        remember();
        for (int k = 0; k < n; k++) {
            minute(now);
        }
        return now.butter;
    }

    int hush(int t) {
        if (!isTale(t)) {
            return BAD;
        }
        if (now.hushed.contains(t) || now.telling == t) {
            return NO;
        }
        remember();
        now.hushed.add(t);
        return tales.size() - now.hushed.size();
    }

    int undo() {
        if (past.isEmpty()) {
            return NO;
        }
        now = past.removeLast();
        return past.size();
    }

    // ---- what comes

    int comes(int h) {
        if (h < 0 || h > 999) {
            return BAD;
        }
        Now s = now.copy();
        for (int k = 0; k <= 120; k++) {
            if (s.butter >= h) {
                return k;
            }
            minute(s);
        }
        return NONE;
    }

    int quiet() {
        if (!sits()) {
            return NO;
        }
        Now s = now.copy();
        for (int k = 0; k <= 120; k++) {
            if (isSilent(s)) {
                return k;
            }
            minute(s);
        }
        return NONE;
    }

    private int bring(int a, int b, int n, Set<Integer> alsoHushed) {
        Now s = now.copy();
        s.hushed.addAll(alsoHushed);
        int before = s.butter;
        rise(s);
        seat(s, a, b);
        for (int k = 0; k < n; k++) {
            minute(s);
        }
        return s.butter - before;
    }

    private int bring(int a, int b, int n) {
        return bring(a, b, n, Set.of());
    }

    int brings(int a, int b, int n) {
        if (!isPerson(a) || !isPerson(b) || a == b || n < 1 || n > 60) {
            return BAD;
        }
        return areFriends(a, b) ? bring(a, b, n) : NO;
    }

    /** All friends in either order, by the first one, then the other. */
    private List<int[]> orders() {
        List<int[]> list = new ArrayList<>();
        for (int a = 0; a < kinds.size(); a++) {
            for (int b = 0; b < kinds.size(); b++) {
                if (areFriends(a, b)) {
                    list.add(new int[] {a, b});
                }
            }
        }
        return list;
    }

    int best(int n, int what) {
        if (n < 1 || n > 60 || what < 0 || what > 1) {
            return BAD;
        }
        int who = NONE;
        int most = NONE;
        for (int[] two : orders()) {
            int much = bring(two[0], two[1], n);
            if (much > most) {
                most = much;
                who = 10 * two[0] + two[1];
            }
        }
        return what == 0 ? who : most;
    }

    /** All ways to sit by twos, each told by the mate of each person, 9 for aside. */
    private List<int[]> ways() {
        List<int[]> ways = new ArrayList<>();
        int size = kinds.size();
        int all = 1;
        for (int p = 0; p < size; p++) {
            all *= size + 1;
        }
        for (int code = 0; code < all; code++) {
            int[] mates = new int[size];
            int rest = code;
            for (int p = 0; p < size; p++) {
                mates[p] = rest % (size + 1);
                rest /= size + 1;
            }
            if (isWay(mates)) {
                ways.add(mates);
            }
        }
        return ways;
    }

    private boolean isWay(int[] mates) {
        for (int p = 0; p < mates.length; p++) {
            if (mates[p] == mates.length) {
                continue;
            }
            if (mates[mates[p]] != p || !areFriends(p, mates[p])) {
                return false;
            }
        }
        return true;
    }

    private int sum(int[] mates, int n) {
        int sum = 0;
        for (int p = 0; p < mates.length; p++) {
            if (mates[p] < mates.length && p < mates[p]) {
                sum += bring(p, mates[p], n);
            }
        }
        return sum;
    }

    private static boolean isAhead(int[] one, int[] another) {
        for (int p = 0; p < one.length; p++) {
            if (one[p] != another[p]) {
                return one[p] < another[p];
            }
        }
        return false;
    }

    private int[] bestWay(int n) {
        int[] best = null;
        int most = -1;
        for (int[] way : ways()) {
            int sum = sum(way, n);
            if (sum > most || sum == most && isAhead(way, best)) {
                best = way;
                most = sum;
            }
        }
        return best;
    }

    int twos(int n, int p) {
        if (n < 1 || n > 60 || p != -1 && !isPerson(p)) {
            return BAD;
        }
        int[] way = bestWay(n);
        if (p == -1) {
            return sum(way, n);
        }
        return way[p] == way.length ? NONE : way[p];
    }

    private int has(int[] way, int p, int n) {
        return way[p] == way.length ? 0 : bring(Math.min(p, way[p]), Math.max(p, way[p]), n);
    }

    int leave(int n) {
        if (n < 1 || n > 60) {
            return BAD;
        }
        int[] way = bestWay(n);
        for (int[] two : orders()) {
            if (two[0] > two[1] || way[two[0]] == two[1]) {
                continue;
            }
            int much = bring(two[0], two[1], n);
            if (much > has(way, two[0], n) && much > has(way, two[1], n)) {
                return 10 * two[0] + two[1];
            }
        }
        return NONE;
    }

    int hears(int t, int p) {
        if (!isTale(t) || !isPerson(p)) {
            return BAD;
        }
        // All sets of knowers that come of so many sittings.
        Set<Set<Integer>> sets = new HashSet<>();
        sets.add(knowers(t));
        for (int sittings = 0; sittings <= 6; sittings++) {
            Set<Set<Integer>> next = new HashSet<>();
            for (Set<Integer> set : sets) {
                if (set.contains(p)) {
                    return sittings;
                }
                for (int[] two : orders()) {
                    if (set.contains(two[0]) && kinds.get(two[0]) != 1 && tales.get(t).of != two[1]
                            && !now.hushed.contains(t)) {
                        Set<Integer> more = new TreeSet<>(set);
                        more.add(two[1]);
                        next.add(more);
                    }
                }
            }
            sets = next;
        }
        return NONE;
    }

    int cost(int n, int what) {
        if (n < 1 || n > 60 || what < 0 || what > 1) {
            return BAD;
        }
        int which = NONE;
        int most = NONE;
        for (int t = 0; t < tales.size(); t++) {
            if (now.hushed.contains(t)) {
                continue;
            }
            int still = 0;
            for (int[] two : orders()) {
                still = Math.max(still, bring(two[0], two[1], n, Set.of(t)));
            }
            if (still > most) {
                most = still;
                which = t;
            }
        }
        return what == 0 ? which : most;
    }

    // ---- what was said

    int said(int a, int b, int y, int what) {
        if (!isPerson(a) || !isPerson(b) || a == b || y < 0 || y > 180 || what < 0 || what > 1) {
            return BAD;
        }
        Now s = now.copy();
        s.told.clear();
        List<Integer> can = new ArrayList<>(canTell(s, a, b));
        int many = 0;
        int lowest = NONE;
        for (int pick = 0; pick < 1 << can.size(); pick++) {
            int ill = 0;
            int set = 0;
            for (int i = 0; i < can.size(); i++) {
                if ((pick >> i & 1) == 1) {
                    ill += tales.get(can.get(i)).ill;
                    set += 1 << can.get(i);
                }
            }
            if (ill == y) {
                many++;
                lowest = lowest == NONE ? set : Math.min(lowest, set);
            }
        }
        return what == 0 ? many : lowest;
    }

    int who(int n, int y, int what) {
        if (n < 1 || n > 60 || y < 0 || y > 999 || what < 0 || what > 1) {
            return BAD;
        }
        List<Integer> list = new ArrayList<>();
        for (int[] two : orders()) {
            if (bring(two[0], two[1], n) == y) {
                list.add(10 * two[0] + two[1]);
            }
        }
        return what == 0 ? list.size() : list.isEmpty() ? NONE : list.get(0);
    }

    // ---- held back, days

    int held(int a, int b, int n, int h, int x, int part) {
        if (!isPerson(a) || !isPerson(b) || a == b || n < 1 || n > 60 || h < 0 || h > 999
                || x < 0 || x > 10 || part < 0 || part > 1) {
            return BAD;
        }
        if (!areFriends(a, b)) {
            return NO;
        }
        List<Integer> free = new ArrayList<>();
        for (int t = 0; t < tales.size(); t++) {
            if (!now.hushed.contains(t)) {
                free.add(t);
            }
        }
        BigInteger above = BigInteger.ZERO;
        for (int pick = 0; pick < 1 << free.size(); pick++) {
            BigInteger ways = BigInteger.ONE;
            Set<Integer> back = new TreeSet<>();
            for (int i = 0; i < free.size(); i++) {
                boolean isBack = (pick >> i & 1) == 1;
                ways = ways.multiply(BigInteger.valueOf(isBack ? x : 10 - x));
                if (isBack) {
                    back.add(free.get(i));
                }
            }
            if (bring(a, b, n, back) >= h) {
                above = above.add(ways);
            }
        }
        BigInteger below = BigInteger.TEN.pow(free.size());
        BigInteger common = above.gcd(below);
        return (part == 0 ? above : below).divide(common).intValueExact();
    }

    int day(int z, int n, int what) {
        if (z < 0 || z > 9999 || n < 1 || n > 60 || what < 0 || what > 1) {
            return BAD;
        }
        Now s = now.copy();
        for (int k = 0; k < n; k++) {
            BigInteger x = BigInteger.valueOf(7919L * z + 6151L * k + 1);
            int draw = x.multiply(x).mod(BigInteger.valueOf(65521)).intValue();
            if (s.a < 0) {
                int a = draw / 8 % kinds.size();
                int b = draw / 64 % kinds.size();
                if (a != b && areFriends(a, b)) {
                    seat(s, a, b);
                }
            } else if (draw % 8 == 0) {
                rise(s);
            } else if (draw % 8 == 1 && !tales.isEmpty()) {
                int t = draw / 8 % tales.size();
                if (s.telling != t) {
                    s.hushed.add(t);
                }
            }
            minute(s);
        }
        return what == 0 ? s.butter : all(s);
    }

    private static int all(Now s) {
        int sum = 0;
        for (Set<Integer> known : s.knows) {
            sum += known.size();
        }
        return sum;
    }

    int keep() {
        if (kept.size() == 2) {
            return FULL;
        }
        kept.addLast(now.copy());
        return kept.size();
    }

    int back() {
        if (kept.isEmpty()) {
            return NO;
        }
        now = kept.removeLast();
        past.clear();
        return kept.size();
    }

    int count(int what) {
        if (what < 0 || what > 9) {
            return BAD;
        }
        int[] answers = {kinds.size(), tales.size(), friends.size() / 2, now.minutes, now.butter,
            now.hushed.size(), all(now), past.size(), kept.size(), text.length()};
        return answers[what];
    }
}
