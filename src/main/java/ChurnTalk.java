/**
 * Two who sit at a churn and talk of people. ../shared/DOC.md promises what every call answers.
 *
 * <p>All rows are made once, in constructors, and used again: no call makes an object.
 */
public final class ChurnTalk {
    public static final int BAD = -1, NO = -2, FULL = -3, NONE = -4;

    private static final String FIRST_TOWN =
            "p0;p3;p1;p2;p3;p0;f0,1;f1,4;f0,2;f2,3;f3,4;f4,5;f0,5;t3,6,2,0;t5,9,3,01;t0,4,1,4;t2,12,4,1;t1,3,2,35;t4,7,1,0;t0,8,3,3;";

    private static final int MOST_LETTERS = 200;
    private static final int MOST_PERSONS = 6;
    private static final int MOST_TALES = 9;
    private static final int MOST_ILL = 20;
    private static final int MOST_TAKEN = 9;
    private static final int MOST_UNDONE = 8;
    private static final int MOST_KEPT = 2;
    private static final int LONGEST_SPAN = 60;
    private static final int LONGEST_WAIT = 120;
    private static final int MOST_ASKED_BUTTER = 999;
    private static final int MOST_ASKED_ILL = 180;
    private static final int MOST_DAY = 9999;
    private static final int TENTHS = 10;

    private static final int WIDOW = 1;
    private static final int PARSON = 2;
    private static final int YOUNG = 3;
    private static final int SILENT_BUTTER = 10;

    // What twos(n, p) takes for p to be told the sum.
    private static final int EVERYONE = -1;

    // Stands where there is no person, no tale, no place and no figure.
    private static final int NOT_ANY = -1;

    private final Text text = new Text();
    private final State now = new State();
    // What would be is tried on this one, so that nothing changes by a question.
    private final State ahead = new State();
    private final Shelf past = new Shelf(MOST_UNDONE);
    private final Shelf kept = new Shelf(MOST_KEPT);
    private final Pairing pairing = new Pairing();
    private Town town = new Town();
    // A text is read into this one, so that a text with a fault leaves the town as it is.
    private Town spare = new Town();

    public ChurnTalk() {
        for (int i = 0; i < FIRST_TOWN.length(); i++) {
            text.add(FIRST_TOWN.charAt(i));
        }
        if (text.readInto(spare) == NOT_ANY) {
            moveIn();
        }
        text.empty();
    }

    // ---- towns

    public int write(int letter) {
        if (!isWithin(letter, 32, 126)) {
            return BAD;
        }
        return text.add(letter) ? text.size() : FULL;
    }

    public int wipe() {
        int size = text.size();
        text.empty();
        return size;
    }

    public int fault() {
        int place = text.readInto(spare);
        return place == NOT_ANY ? NONE : place;
    }

    public int lay() {
        if (text.readInto(spare) != NOT_ANY || spare.persons == 0) {
            return NO;
        }
        moveIn();
        return town.persons;
    }

    private void moveIn() {
        Town left = town;
        town = spare;
        spare = left;
        now.startIn(town);
        past.clear();
        kept.clear();
    }

    public int person(int p, int what) {
        if (!town.hasPerson(p)) {
            return BAD;
        }
        switch (what) {
            case 0:
                return town.kindOf(p);
            case 1:
                return town.friendsOf(p);
            case 2:
                return now.knownBy(p);
            case 3:
                return now.isSeated(p) ? 1 : 0;
            default:
                return BAD;
        }
    }

    public int tale(int t, int what) {
        if (!town.hasTale(t)) {
            return BAD;
        }
        switch (what) {
            case 0:
                return town.personOf(t);
            case 1:
                return town.illOf(t);
            case 2:
                return town.minutesOf(t);
            case 3:
                return now.isHushed(t) ? 1 : 0;
            case 4:
                return now.knowersOf(t);
            default:
                return BAD;
        }
    }

    public int churn(int what) {
        if (!isWithin(what, 0, 5)) {
            return BAD;
        }
        if (!now.anyoneSits()) {
            return NONE;
        }
        switch (what) {
            case 0:
                return now.first;
            case 1:
                return now.other;
            case 2:
                return now.teller;
            case 3:
                return now.isTelling() ? now.telling : NONE;
            case 4:
                return now.minutesToGo;
            default:
                return now.told;
        }
    }

    // ---- acts

    public int sit(int a, int b) {
        if (!areTwo(a, b)) {
            return BAD;
        }
        if (now.anyoneSits() || !town.areFriends(a, b)) {
            return NO;
        }
        past.push(now);
        now.seat(a, b);
        return now.mayTell(town, a, b);
    }

    public int stand() {
        if (!now.anyoneSits()) {
            return NO;
        }
        past.push(now);
        int told = Integer.bitCount(now.told);
        now.standUp();
        return told;
    }

    public int pass(int n) {
        if (!isSpan(n)) {
            return BAD;
        }
        past.push(now);
        now.goOn(town, n);
        return now.butter;
    }

    public int hush(int t) {
        if (!town.hasTale(t)) {
            return BAD;
        }
        if (!now.canHush(t)) {
            return NO;
        }
        past.push(now);
        now.hushed |= bit(t);
        return town.tales - Integer.bitCount(now.hushed);
    }

    public int undo() {
        return past.popInto(now) ? past.size() : NO;
    }

    // ---- what comes

    public int comes(int h) {
        if (!isWithin(h, 0, MOST_ASKED_BUTTER)) {
            return BAD;
        }
        ahead.copyFrom(now);
        for (int k = 0; k <= LONGEST_WAIT; k++) {
            if (ahead.butter >= h) {
                return k;
            }
            ahead.goOn(town, 1);
        }
        return NONE;
    }

    public int quiet() {
        if (!now.anyoneSits()) {
            return NO;
        }
        ahead.copyFrom(now);
        for (int k = 0; k <= LONGEST_WAIT; k++) {
            if (ahead.isSilent(town)) {
                return k;
            }
            ahead.goOn(town, 1);
        }
        return NONE;
    }

    public int brings(int a, int b, int n) {
        if (!areTwo(a, b) || !isSpan(n)) {
            return BAD;
        }
        return wouldBring(a, b, n, now.hushed);
    }

    /** What two would bring who sat down now, were just these tales hushed; NO without friendship. */
    private int wouldBring(int a, int b, int n, int hushed) {
        if (!town.areFriends(a, b)) {
            return NO;
        }
        ahead.copyFrom(now);
        ahead.hushed = hushed;
        ahead.butter = 0;
        ahead.seat(a, b);
        ahead.goOn(town, n);
        return ahead.butter;
    }

    public int best(int n, int what) {
        if (!isSpan(n) || !isWithin(what, 0, 1)) {
            return BAD;
        }
        int most = bestButter(n, now.hushed);
        int two = firstWho(n, most);
        return what == 0 || two == NONE ? two : most;
    }

    /** The most that two friends would bring, were just these tales hushed; 0 without friends. */
    private int bestButter(int n, int hushed) {
        int most = 0;
        for (int a = 0; a < town.persons; a++) {
            for (int b = 0; b < town.persons; b++) {
                most = Math.max(most, wouldBring(a, b, n, hushed));
            }
        }
        return most;
    }

    /** Ten times the first one and the other of the first friends who would bring just y, or NONE. */
    private int firstWho(int n, int y) {
        for (int a = 0; a < town.persons; a++) {
            for (int b = 0; b < town.persons; b++) {
                if (wouldBring(a, b, n, now.hushed) == y) {
                    return 10 * a + b;
                }
            }
        }
        return NONE;
    }

    private int howManyWho(int n, int y) {
        int twos = 0;
        for (int a = 0; a < town.persons; a++) {
            for (int b = 0; b < town.persons; b++) {
                twos += wouldBring(a, b, n, now.hushed) == y ? 1 : 0;
            }
        }
        return twos;
    }

    public int twos(int n, int p) {
        if (!isSpan(n) || p != EVERYONE && !town.hasPerson(p)) {
            return BAD;
        }
        pairAll(n);
        if (p == EVERYONE) {
            return pairing.sum(town.persons);
        }
        int mate = pairing.mateOf(p);
        return mate == NOT_ANY ? NONE : mate;
    }

    private void pairAll(int n) {
        for (int low = 0; low < town.persons; low++) {
            for (int high = low + 1; high < town.persons; high++) {
                pairing.setButter(low, high, wouldBring(low, high, n, now.hushed));
            }
        }
        pairing.solve(town.persons);
    }

    public int leave(int n) {
        if (!isSpan(n)) {
            return BAD;
        }
        pairAll(n);
        for (int low = 0; low < town.persons; low++) {
            for (int high = low + 1; high < town.persons; high++) {
                if (wouldLeave(low, high)) {
                    return 10 * low + high;
                }
            }
        }
        return NONE;
    }

    // Those who sit together have just what they bring, and NO is less than any: neither leaves.
    private boolean wouldLeave(int low, int high) {
        int butter = pairing.butterOf(low, high);
        return butter > pairing.hasNow(low) && butter > pairing.hasNow(high);
    }

    public int hears(int t, int p) {
        if (!town.hasTale(t) || !town.hasPerson(p)) {
            return BAD;
        }
        int knowers = now.knowersOf(t);
        for (int sittings = 0; sittings <= town.persons; sittings++) {
            if ((knowers & bit(p)) != 0) {
                return sittings;
            }
            knowers |= now.hearersOf(town, t, knowers);
        }
        return NONE;
    }

    public int cost(int n, int what) {
        if (!isSpan(n) || !isWithin(what, 0, 1)) {
            return BAD;
        }
        int which = NOT_ANY;
        int most = 0;
        for (int t = 0; t < town.tales; t++) {
            if (now.isHushed(t)) {
                continue;
            }
            int butter = bestButter(n, now.hushed | bit(t));
            if (which == NOT_ANY || butter > most) {
                which = t;
                most = butter;
            }
        }
        if (which == NOT_ANY) {
            return NONE;
        }
        return what == 0 ? which : most;
    }

    // ---- what was said

    public int said(int a, int b, int y, int what) {
        if (!areTwo(a, b) || !isWithin(y, 0, MOST_ASKED_ILL) || !isWithin(what, 0, 1)) {
            return BAD;
        }
        int tellable = now.mayTell(town, a, b);
        int sets = 0;
        int lowest = NONE;
        for (int set = 0; set < bit(MOST_TALES); set++) {
            if ((set & ~tellable) == 0 && town.illOfAll(set) == y) {
                sets++;
                lowest = lowest == NONE ? set : lowest;
            }
        }
        return what == 0 ? sets : lowest;
    }

    public int who(int n, int y, int what) {
        if (!isSpan(n) || !isWithin(y, 0, MOST_ASKED_BUTTER) || !isWithin(what, 0, 1)) {
            return BAD;
        }
        return what == 0 ? howManyWho(n, y) : firstWho(n, y);
    }

    // ---- held back, days

    public int held(int a, int b, int n, int h, int x, int part) {
        if (!areTwo(a, b) || !isSpan(n) || !isWithin(h, 0, MOST_ASKED_BUTTER)
                || !isWithin(x, 0, TENTHS) || !isWithin(part, 0, 1)) {
            return BAD;
        }
        if (!town.areFriends(a, b)) {
            return NO;
        }
        // Other tales are never told by these two: held back or not, the chance is the same.
        int tellable = now.mayTell(town, a, b) | now.mayTell(town, b, a);
        int tales = Integer.bitCount(tellable);
        long above = 0;
        for (int heldBack = 0; heldBack < bit(MOST_TALES); heldBack++) {
            if ((heldBack & ~tellable) != 0) {
                continue;
            }
            int stopped = Integer.bitCount(heldBack);
            long ways = power(x, stopped) * power(TENTHS - x, tales - stopped);
            if (ways > 0 && wouldBring(a, b, n, now.hushed | heldBack) >= h) {
                above += ways;
            }
        }
        long below = power(TENTHS, tales);
        long common = commonDivisor(above, below);
        return common == 0 ? 0 : (int) ((part == 0 ? above : below) / common);
    }

    public int day(int z, int n, int what) {
        if (!isWithin(z, 0, MOST_DAY) || !isSpan(n) || !isWithin(what, 0, 1)) {
            return BAD;
        }
        ahead.copyFrom(now);
        for (int k = 0; k < n; k++) {
            actByDraw(draw(z, k));
            ahead.goOn(town, 1);
        }
        return what == 0 ? ahead.butter : ahead.knownByAll();
    }

    private static int draw(int z, int k) {
        long x = 7919L * z + 6151L * k + 1;
        return (int) (x * x % 65521);
    }

    private void actByDraw(int draw) {
        if (!ahead.anyoneSits()) {
            seatByDraw(draw);
        } else if (draw % 8 == 0) {
            ahead.standUp();
        } else if (draw % 8 == 1 && town.tales > 0) {
            int t = draw / 8 % town.tales;
            if (ahead.canHush(t)) {
                ahead.hushed |= bit(t);
            }
        }
    }

    private void seatByDraw(int draw) {
        if (town.persons <= 0) {
            return;
        }
        int a = draw / 8 % town.persons;
        int b = draw / 64 % town.persons;
        if (town.areFriends(a, b)) {
            ahead.seat(a, b);
        }
    }

    public int keep() {
        if (kept.isFull()) {
            return FULL;
        }
        kept.push(now);
        return kept.size();
    }

    public int back() {
        if (!kept.popInto(now)) {
            return NO;
        }
        past.clear();
        return kept.size();
    }

    public int count(int what) {
        switch (what) {
            case 0:
                return town.persons;
            case 1:
                return town.tales;
            case 2:
                return town.friendships();
            case 3:
                return now.minutes;
            case 4:
                return now.butter;
            case 5:
                return Integer.bitCount(now.hushed);
            case 6:
                return now.knownByAll();
            case 7:
                return past.size();
            case 8:
                return kept.size();
            case 9:
                return text.size();
            default:
                return BAD;
        }
    }

    // ---- what a number may be

    private boolean areTwo(int a, int b) {
        return town.hasPerson(a) && town.hasPerson(b) && a != b;
    }

    private static boolean isSpan(int n) {
        return isWithin(n, 1, LONGEST_SPAN);
    }

    private static boolean isWithin(int number, int least, int most) {
        return number >= least && number <= most;
    }

    // ---- rows, bits, numbers

    private static int at(int[] row, int i) {
        return i >= 0 && i < row.length ? row[i] : 0;
    }

    private static void put(int[] row, int i, int value) {
        if (i >= 0 && i < row.length) {
            row[i] = value;
        }
    }

    private static int bit(int i) {
        return 1 << i;
    }

    private static int lowestOf(int bits) {
        return bits == 0 ? NOT_ANY : Integer.bitCount((bits & -bits) - 1);
    }

    private static long power(long base, int times) {
        long product = 1;
        for (int i = 0; i < times; i++) {
            product *= base;
        }
        return product;
    }

    private static long commonDivisor(long a, long b) {
        // Each two steps halve the numbers at least: 200 are more than any long needs.
        for (int step = 0; step < 200 && b != 0; step++) {
            long rest = a % b;
            a = b;
            b = rest;
        }
        return a;
    }

    /** What a text tells: persons, friends and tales. No act changes it. */
    private static final class Town {
        private int persons;
        private int tales;
        private final int[] kinds = new int[MOST_PERSONS];
        private final int[] friends = new int[MOST_PERSONS];
        private final int[] talesAbout = new int[MOST_PERSONS];
        private final int[] knownAtFirst = new int[MOST_PERSONS];
        private final int[] subjects = new int[MOST_TALES];
        private final int[] ills = new int[MOST_TALES];
        private final int[] minutes = new int[MOST_TALES];

        private void clear() {
            persons = 0;
            tales = 0;
        }

        private boolean addPerson(int kind) {
            if (persons >= MOST_PERSONS || !isWithin(kind, 0, YOUNG)) {
                return false;
            }
            put(kinds, persons, kind);
            put(friends, persons, 0);
            put(talesAbout, persons, 0);
            put(knownAtFirst, persons, 0);
            persons++;
            return true;
        }

        private boolean addFriends(int a, int b) {
            if (!hasPerson(a) || !hasPerson(b) || a == b) {
                return false;
            }
            put(friends, a, friendsOf(a) | bit(b));
            put(friends, b, friendsOf(b) | bit(a));
            return true;
        }

        private boolean addTale(int about, int ill, int taken, int knowers) {
            if (tales >= MOST_TALES || !hasPerson(about) || !isWithin(ill, 1, MOST_ILL)
                    || !isWithin(taken, 1, MOST_TAKEN)
                    || knowers == 0 || (knowers & bit(about)) != 0) {
                return false;
            }
            put(subjects, tales, about);
            put(ills, tales, ill);
            put(minutes, tales, taken);
            put(talesAbout, about, at(talesAbout, about) | bit(tales));
            for (int p = 0; p < persons; p++) {
                if ((knowers & bit(p)) != 0) {
                    put(knownAtFirst, p, at(knownAtFirst, p) | bit(tales));
                }
            }
            tales++;
            return true;
        }

        private boolean hasPerson(int p) {
            return p >= 0 && p < persons;
        }

        private boolean hasTale(int t) {
            return t >= 0 && t < tales;
        }

        private int kindOf(int p) {
            return at(kinds, p);
        }

        private int friendsOf(int p) {
            return at(friends, p);
        }

        private boolean areFriends(int a, int b) {
            return hasPerson(a) && hasPerson(b) && (friendsOf(a) & bit(b)) != 0;
        }

        private int friendships() {
            int ends = 0;
            for (int p = 0; p < persons; p++) {
                ends += Integer.bitCount(friendsOf(p));
            }
            return ends / 2;
        }

        private int personOf(int t) {
            return at(subjects, t);
        }

        private int illOf(int t) {
            return at(ills, t);
        }

        private int minutesOf(int t) {
            return at(minutes, t);
        }

        private int illOfAll(int set) {
            int sum = 0;
            for (int t = 0; t < tales; t++) {
                if ((set & bit(t)) != 0) {
                    sum += illOf(t);
                }
            }
            return sum;
        }
    }

    /** All that acts change: what is kept, and what comes back when one is undone. */
    private static final class State {
        private final int[] knows = new int[MOST_PERSONS];
        private int hushed;
        private int first = NOT_ANY;
        private int other = NOT_ANY;
        private int teller = NOT_ANY;
        private int telling = NOT_ANY;
        private int minutesToGo;
        private int told;
        private int minutes;
        private int butter;

        private void startIn(Town town) {
            for (int p = 0; p < knows.length; p++) {
                knows[p] = p < town.persons ? at(town.knownAtFirst, p) : 0;
            }
            hushed = 0;
            minutes = 0;
            butter = 0;
            standUp();
        }

        private void copyFrom(State from) {
            for (int p = 0; p < knows.length; p++) {
                knows[p] = at(from.knows, p);
            }
            hushed = from.hushed;
            first = from.first;
            other = from.other;
            teller = from.teller;
            telling = from.telling;
            minutesToGo = from.minutesToGo;
            told = from.told;
            minutes = from.minutes;
            butter = from.butter;
        }

        private boolean anyoneSits() {
            return first != NOT_ANY;
        }

        private boolean isSeated(int p) {
            return anyoneSits() && (p == first || p == other);
        }

        private boolean isTelling() {
            return telling != NOT_ANY;
        }

        private boolean isHushed(int t) {
            return (hushed & bit(t)) != 0;
        }

        private boolean canHush(int t) {
            return !isHushed(t) && telling != t;
        }

        private int knownBy(int p) {
            return at(knows, p);
        }

        private int knownByAll() {
            int sum = 0;
            for (int p = 0; p < knows.length; p++) {
                sum += Integer.bitCount(knows[p]);
            }
            return sum;
        }

        private int knowersOf(int t) {
            int knowers = 0;
            for (int p = 0; p < knows.length; p++) {
                if ((knows[p] & bit(t)) != 0) {
                    knowers |= bit(p);
                }
            }
            return knowers;
        }

        /** The persons whom one of these could tell the tale, did they know it. */
        private int hearersOf(Town town, int t, int knowers) {
            int hearers = 0;
            for (int p = 0; p < town.persons; p++) {
                if ((knowers & bit(p)) != 0 && town.kindOf(p) != WIDOW && !isHushed(t)) {
                    hearers |= town.friendsOf(p);
                }
            }
            return hearers & ~bit(town.personOf(t));
        }

        /** The tales that one can tell another, nothing told yet. */
        private int mayTell(Town town, int one, int another) {
            if (at(town.kinds, one) == WIDOW) {
                return 0;
            }
            return at(knows, one) & ~hushed & ~at(town.talesAbout, another);
        }

        private void seat(int a, int b) {
            standUp();
            first = a;
            other = b;
            teller = a;
        }

        private void standUp() {
            first = NOT_ANY;
            other = NOT_ANY;
            teller = NOT_ANY;
            told = 0;
            endTale();
        }

        private void endTale() {
            telling = NOT_ANY;
            minutesToGo = 0;
        }

        private int listener() {
            return teller == first ? other : first;
        }

        /** Whether the minute that follows is one of silence. */
        private boolean isSilent(Town town) {
            int tellable = mayTell(town, first, other) | mayTell(town, other, first);
            return anyoneSits() && !isTelling() && (tellable & ~told) == 0;
        }

        /** Minutes of one tale are all alike, and so are all that follow in silence. */
        private void goOn(Town town, int n) {
            int gone = 0;
            while (gone < n) {
                beginTale(town);
                int span = isTelling() ? Math.min(n - gone, Math.max(1, minutesToGo)) : n - gone;
                giveButter(town, span);
                gone += span;
            }
            minutes += n;
        }

        private void beginTale(Town town) {
            if (!anyoneSits() || isTelling()) {
                return;
            }
            int tales = mayTell(town, teller, listener()) & ~told;
            if (tales == 0) {
                tales = mayTell(town, listener(), teller) & ~told;
                // In silence, who was to tell still is.
                teller = tales == 0 ? teller : listener();
            }
            telling = lowestOf(tales);
            minutesToGo = town.minutesOf(telling);
        }

        private void giveButter(Town town, int span) {
            if (isTelling()) {
                int ill = town.illOf(telling);
                butter += span * (town.kindOf(teller) == PARSON ? ill / 2 : ill);
                minutesToGo -= span;
                if (minutesToGo <= 0) {
                    tellOut();
                }
            } else if (anyoneSits() && town.kindOf(first) == YOUNG && town.kindOf(other) == YOUNG) {
                butter += SILENT_BUTTER * span;
            }
        }

        private void tellOut() {
            told |= bit(telling);
            put(knows, listener(), at(knows, listener()) | bit(telling));
            teller = listener();
            endTale();
        }
    }

    /** States put by, the latest first to come back; the oldest goes when there is no room. */
    private static final class Shelf {
        private final State[] states;
        private int size;

        private Shelf(int room) {
            states = new State[Math.max(1, room)];
            for (int i = 0; i < states.length; i++) {
                states[i] = new State();
            }
        }

        private int size() {
            return size;
        }

        private boolean isFull() {
            return size >= states.length;
        }

        private void clear() {
            size = 0;
        }

        private void push(State state) {
            if (isFull()) {
                dropOldest();
            }
            if (isState(size)) {
                states[size].copyFrom(state);
                size++;
            }
        }

        private boolean popInto(State state) {
            if (!isState(size - 1)) {
                return false;
            }
            size--;
            state.copyFrom(states[size]);
            return true;
        }

        // The oldest state's object becomes the room for the next one.
        private void dropOldest() {
            if (!isState(0)) {
                return;
            }
            State oldest = states[0];
            for (int i = 1; i < states.length; i++) {
                states[i - 1] = states[i];
            }
            states[states.length - 1] = oldest;
            size = states.length - 1;
        }

        private boolean isState(int i) {
            return i >= 0 && i < states.length && states[i] != null;
        }
    }

    /** The text's letters, and how they are read into a town. */
    private static final class Text {
        private static final int END = 0;

        private final char[] letters = new char[MOST_LETTERS];
        private int size;
        private int place;

        private int size() {
            return size;
        }

        private void empty() {
            size = 0;
        }

        private boolean add(int letter) {
            if (size < 0 || size >= letters.length) {
                return false;
            }
            letters[size] = (char) letter;
            size++;
            return true;
        }

        /** The place of the first item that is not so, or NOT_ANY. */
        private int readInto(Town town) {
            town.clear();
            place = 0;
            for (int item = 0; item < letters.length && place < size; item++) {
                int start = place;
                if (!readItem(town)) {
                    return start;
                }
            }
            return NOT_ANY;
        }

        private boolean readItem(Town town) {
            int letter = peek();
            place++;
            switch (letter) {
                case 'p':
                    return readPerson(town);
                case 'f':
                    return readFriends(town);
                case 't':
                    return readTale(town);
                default:
                    return false;
            }
        }

        private boolean readPerson(Town town) {
            int kind = readNumber();
            return accept(';') && town.addPerson(kind);
        }

        private boolean readFriends(Town town) {
            int a = readNumber();
            boolean parted = accept(',');
            int b = readNumber();
            return parted && accept(';') && town.addFriends(a, b);
        }

        private boolean readTale(Town town) {
            int about = readNumber();
            boolean parted = accept(',');
            int ill = readNumber();
            parted = accept(',') && parted;
            int taken = readNumber();
            parted = accept(',') && parted;
            int knowers = readRow(town);
            return parted && accept(';') && town.addTale(about, ill, taken, knowers);
        }

        /** The persons of a row as bits, or 0 if the row is not so. */
        private int readRow(Town town) {
            int row = 0;
            for (int i = 0; i < letters.length; i++) {
                int p = readFigure();
                if (p == NOT_ANY) {
                    return row;
                }
                if (!town.hasPerson(p) || (row & bit(p)) != 0) {
                    return 0;
                }
                row |= bit(p);
            }
            return row;
        }

        private int readNumber() {
            int figure = readFigure();
            if (figure == NOT_ANY) {
                return NOT_ANY;
            }
            int second = readFigure();
            return second == NOT_ANY ? figure : 10 * figure + second;
        }

        private int readFigure() {
            int letter = peek();
            if (letter < '0' || letter > '9') {
                return NOT_ANY;
            }
            place++;
            return letter - '0';
        }

        private boolean accept(char letter) {
            if (peek() != letter) {
                return false;
            }
            place++;
            return true;
        }

        private int peek() {
            return place >= 0 && place < size && place < letters.length ? letters[place] : END;
        }
    }

    /** Who sits with whom by twos, so that all bring most together. */
    private static final class Pairing {
        private final int[] butter = new int[MOST_PERSONS * MOST_PERSONS];
        // For each set of persons: what it brings at most, and who sits then with its lowest one.
        private final int[] mostOf = new int[1 << MOST_PERSONS];
        private final int[] mateOfLowest = new int[1 << MOST_PERSONS];
        private final int[] mates = new int[MOST_PERSONS];

        /** Below 0 for two who cannot sit. */
        private void setButter(int low, int high, int amount) {
            put(butter, MOST_PERSONS * low + high, amount);
        }

        private int butterOf(int a, int b) {
            return at(butter, MOST_PERSONS * Math.min(a, b) + Math.max(a, b));
        }

        private int mateOf(int p) {
            return at(mates, p);
        }

        private int hasNow(int p) {
            return mateOf(p) == NOT_ANY ? 0 : butterOf(p, mateOf(p));
        }

        private int sum(int persons) {
            return at(mostOf, bit(persons) - 1);
        }

        private void solve(int persons) {
            put(mostOf, 0, 0);
            for (int set = 1; set < mostOf.length && set < bit(persons); set++) {
                seatLowest(set);
            }
            readMates(bit(persons) - 1);
        }

        // Mates are tried from the lowest on, aside last, and only more butter wins: so of
        // several ways the first one stands.
        private void seatLowest(int set) {
            int low = lowestOf(set);
            int others = set & ~bit(low);
            int mate = NOT_ANY;
            int most = NOT_ANY;
            for (int high = low + 1; high < MOST_PERSONS; high++) {
                if ((others & bit(high)) == 0 || butterOf(low, high) < 0) {
                    continue;
                }
                int sum = butterOf(low, high) + at(mostOf, others & ~bit(high));
                if (sum > most) {
                    mate = high;
                    most = sum;
                }
            }
            if (at(mostOf, others) > most) {
                mate = NOT_ANY;
                most = at(mostOf, others);
            }
            put(mateOfLowest, set, mate);
            put(mostOf, set, most);
        }

        private void readMates(int everyone) {
            int set = everyone;
            for (int p = 0; p < mates.length; p++) {
                if ((set & bit(p)) == 0) {
                    continue;
                }
                int mate = at(mateOfLowest, set);
                put(mates, p, mate);
                set &= ~bit(p);
                if (mate != NOT_ANY) {
                    put(mates, mate, p);
                    set &= ~bit(mate);
                }
            }
        }
    }
}
