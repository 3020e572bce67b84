/** Town air for a year and a day: see DOC.md, whose words in capitals the names here follow. */
public final class TownAir {
    public static final int BAD = -1, NO = -2, FULL = -3, NONE = -4;

    private static final String FIRST_TEXT =
            "n9;c4;g2;s0,0,1;s1,0,2;s2,1,3;s3,1,0;s0,2,0;m0,0,1;m1,1,2;w0,3;w2,6;w5,9;w3,5;";

    private static final int MOST_LETTERS = 200, MOST_NUMBERS = 3;
    private static final int MOST_QUARTERS = 6, MOST_SERFS = 6, MOST_MEN = 5, MOST_NOTCHES = 6;
    private static final int MOST_LORDS = 3, MOST_STEP = 5, MOST_WANTED = 60, MOST_BEHIND = 99;
    private static final int MOST_DAYS = 999, MOST_AT_ONCE = 60, HUNT_DAYS = 60;
    private static final int MOST_UNDONE = 8, MOST_KEPT = 2, MOST_SEEN = 8;

    private static final int PLAIN = 0, CRAFTSMAN = 1, MOTHER = 2, RENAMED = 3;
    private static final int INSIDE = 0, OUTSIDE = 1, TAKEN = 2, FREE = 3;

    private final Text text = new Text();
    private final Told laid = new Told();
    /** What a call reads or supposes; no call relies on what an earlier one left here. */
    private final Told supposed = new Told();
    private final Standing now = new Standing();
    /** How things would stand; no call relies on what an earlier one left here. */
    private final Standing then = new Standing();
    private final Pile undoable = new Pile(MOST_UNDONE);
    private final Pile kept = new Pile(MOST_KEPT);
    private final Sights sights = new Sights();
    private final Ways ways = new Ways();

    public TownAir() {
        for (int i = 0; i < FIRST_TEXT.length(); i++) {
            text.add(FIRST_TEXT.charAt(i));
        }
        text.readInto(laid);
        text.length = 0;
        now.begin(laid);
    }

    // ---- towns

    public int write(int letter) {
        if (isNot(letter, 32, 126)) {
            return BAD;
        }
        return text.add((char) letter) ? text.length : FULL;
    }

    public int wipe() {
        int was = text.length;
        text.length = 0;
        return was;
    }

    public int fault() {
        return text.readInto(supposed);
    }

    public int lay() {
        if (text.readInto(supposed) != NONE || supposed.serfs == 0) {
            return NO;
        }
        laid.copy(supposed);
        now.begin(laid);
        sights.size = 0;
        undoable.size = 0;
        kept.size = 0;
        return laid.serfs;
    }

    public int serf(int s, int what) {
        if (isNoSerf(s)) {
            return BAD;
        }
        switch (what) {
            case 0:
                return laid.kind[s];
            case 1:
                return laid.lord[s];
            case 2:
                return now.how[s] == INSIDE ? now.quarter[s] : NONE;
            case 3:
                return now.how[s];
            case 4:
                return now.stayed[s];
            case 5:
                return now.met[s];
            case 6:
                return now.how[s] == INSIDE ? now.menIn(laid, laid.lord[s], now.quarter[s]) : 0;
            default:
                return BAD;
        }
    }

    public int man(int m, int what) {
        if (isNoMan(m)) {
            return BAD;
        }
        switch (what) {
            case 0:
                return laid.master[m];
            case 1:
                return now.post[m];
            case 2:
                return laid.step[m];
            default:
                return BAD;
        }
    }

    // ---- acts

    public int move(int s, int q) {
        if (isNoSerf(s) || isNoQuarter(q)) {
            return BAD;
        }
        if (now.isOver(s) || now.livesIn(s, q)) {
            return NO;
        }
        undoable.put(now);
        now.settle(s, q);
        return now.stayed[s];
    }

    public int leave(int s) {
        if (isNoSerf(s)) {
            return BAD;
        }
        if (now.how[s] != INSIDE) {
            return NO;
        }
        undoable.put(now);
        int had = now.stayed[s];
        now.goOut(s);
        return had;
    }

    public int send(int m, int q) {
        if (isNoMan(m) || isNoQuarter(q)) {
            return BAD;
        }
        undoable.put(now);
        int was = now.post[m];
        now.post[m] = q;
        return was;
    }

    public int pass(int n) {
        if (isNot(n, 1, MOST_AT_ONCE)) {
            return BAD;
        }
        if (now.days + n > MOST_DAYS) {
            return NO;
        }
        undoable.put(now);
        int before = now.howMany(laid, TAKEN);
        now.goDays(laid, n);
        return now.howMany(laid, TAKEN) - before;
    }

    public int undo() {
        if (undoable.size == 0) {
            return NO;
        }
        undoable.takeInto(now);
        return undoable.size;
    }

    // ---- what comes

    public int behind(int s, int n, int what) {
        if (isNoSerf(s) || isNot(n, 0, MOST_BEHIND) || isNot(what, 0, 2)) {
            return BAD;
        }
        then.copy(now);
        then.goDays(laid, n);
        if (what == 0) {
            return then.how[s];
        }
        return what == 1 ? then.stayed[s] : then.howMany(laid, TAKEN);
    }

    public int ends(int s) {
        if (isNoSerf(s)) {
            return BAD;
        }
        then.copy(now);
        return daysToEnd(s);
    }

    public int live(int s, int what) {
        if (isNoSerf(s) || isNot(what, 0, 1)) {
            return BAD;
        }
        if (now.isOver(s)) {
            return NO;
        }
        int best = NONE;
        int fewest = NONE;
        for (int q = 0; q < laid.quarters; q++) {
            int days = daysToFree(s, q);
            if (days != NONE && (fewest == NONE || days < fewest)) {
                best = q;
                fewest = days;
            }
        }
        return what == 0 ? best : fewest;
    }

    public int way(int s, int k) {
        if (isNoSerf(s) || isNot(k, 1, MOST_WANTED)) {
            return BAD;
        }
        if (now.how[s] != INSIDE) {
            return NO;
        }
        then.copy(now);
        ways.look(laid, then, s);
        return ways.quarterOn(laid, then.quarter[s], k);
    }

    public int hunt(int lord, int what) {
        if (isNot(lord, 0, MOST_LORDS - 1) || isNot(what, 0, 1)) {
            return BAD;
        }
        int most = NONE;
        int where = NONE;
        for (int q = 0; q < laid.quarters; q++) {
            for (int step = 0; step <= MOST_STEP; step++) {
                int taken = takenWithOneMore(lord, q, step);
                if (taken > most) {
                    most = taken;
                    where = 10 * q + step;
                }
            }
        }
        return what == 0 ? where : most;
    }

    public int proof(int f, int t) {
        if (areNoDays(f, t)) {
            return BAD;
        }
        int day = f;
        int used = 0;
        // One turn more than there are NOTCHES, for the turn that finds none.
        for (int i = 0; i <= laid.notches && day <= t; i++) {
            int last = laid.provedFrom(day);
            if (last == NONE) {
                return NONE;
            }
            used++;
            day = last + 1;
        }
        return day > t ? used : NONE;
    }

    public int gap(int f, int t) {
        if (areNoDays(f, t)) {
            return BAD;
        }
        for (int day = f; day <= t; day++) {
            if (laid.provedFrom(day) == NONE) {
                return day;
            }
        }
        return NONE;
    }

    // ---- what was seen

    public int seen(int s, int n, int how) {
        if (isNoSerf(s) || isNot(n, 1, MOST_BEHIND) || isNot(how, INSIDE, FREE)) {
            return BAD;
        }
        return sights.add(s, n, how) ? sights.size : FULL;
    }

    public int forget() {
        int were = sights.size;
        sights.size = 0;
        return were;
    }

    public int lords(int s) {
        if (isNoSerf(s)) {
            return BAD;
        }
        int bits = 0;
        for (int lord = 0; lord < MOST_LORDS; lord++) {
            if (couldBeOf(s, lord)) {
                bits |= 1 << lord;
            }
        }
        return bits;
    }

    public int leap(int n) {
        if (isNot(n, 1, MOST_BEHIND)) {
            return BAD;
        }
        supposed.copy(laid);
        int asItIs = freeBehind(n);
        supposed.wanted++;
        return asItIs & ~freeBehind(n);
    }

    // ---- chances, years

    public int sure(int d, int x, int twice, int part) {
        if (isNot(d, 0, 8) || isNot(x, 0, 10) || isNot(twice, 0, 1) || isNot(part, 0, 1)) {
            return BAD;
        }
        int below = power(10, d);
        int above = power(10 - x, d);
        if (twice == 1 && d > 0) {
            above += d * x * power(10 - x, d - 1);
        }
        int shared = commonDivisor(above, below);
        if (shared == 0) {
            return NONE;
        }
        return part == 0 ? above / shared : below / shared;
    }

    public int year(int z, int n, int what) {
        if (isNot(z, 0, 9999) || isNot(n, 1, MOST_AT_ONCE) || isNot(what, 0, 1)) {
            return BAD;
        }
        then.copy(now);
        for (int day = 0; day < n; day++) {
            actByDraw(draw(z, day));
            then.goDay(laid);
        }
        return then.howMany(laid, what == 0 ? TAKEN : FREE);
    }

    // ---- kept

    public int keep() {
        if (kept.size == MOST_KEPT) {
            return FULL;
        }
        kept.put(now);
        return kept.size;
    }

    public int back() {
        if (kept.size == 0) {
            return NO;
        }
        kept.takeInto(now);
        undoable.size = 0;
        return kept.size;
    }

    public int count(int what) {
        switch (what) {
            case 0:
                return laid.serfs;
            case 1:
                return laid.men;
            case 2:
                return laid.quarters;
            case 3:
                return laid.wanted;
            case 4:
                return now.days;
            case 5:
                return now.howMany(laid, TAKEN);
            case 6:
                return now.howMany(laid, FREE);
            case 7:
                return sights.size;
            case 8:
                return undoable.size;
            case 9:
                return kept.size;
            case 10:
                return text.length;
            default:
                return BAD;
        }
    }

    // ---- which numbers there are

    private static boolean isNot(int number, int least, int most) {
        return number < least || number > most;
    }

    private boolean isNoSerf(int s) {
        return isNot(s, 0, laid.serfs - 1);
    }

    private boolean isNoMan(int m) {
        return isNot(m, 0, laid.men - 1);
    }

    private boolean isNoQuarter(int q) {
        return isNot(q, 0, laid.quarters - 1);
    }

    private static boolean areNoDays(int f, int t) {
        return isNot(f, 0, MOST_BEHIND) || isNot(t, 0, MOST_BEHIND) || f > t;
    }

    // ---- what would be

    /** From how things stand in then, which goes on by as many DAYS. */
    private int daysToEnd(int s) {
        for (int days = 0; days < MOST_BEHIND; days++) {
            if (then.isOver(s)) {
                return days;
            }
            then.goDay(laid);
        }
        return then.isOver(s) ? MOST_BEHIND : NONE;
    }

    private int daysToFree(int s, int q) {
        then.copy(now);
        if (!then.livesIn(s, q)) {
            then.settle(s, q);
        }
        int days = daysToEnd(s);
        return then.how[s] == FREE ? days : NONE;
    }

    private int takenWithOneMore(int lord, int q, int step) {
        supposed.copy(laid);
        then.copy(now);
        if (!supposed.addMan(lord, q, step)) {
            return NONE;
        }
        then.post[supposed.men - 1] = q;
        // Once nobody is INSIDE, the DAYS that are left change nothing.
        for (int d = 0; d < HUNT_DAYS && then.howMany(supposed, INSIDE) > 0; d++) {
            then.goDay(supposed);
        }
        return then.howMany(supposed, TAKEN);
    }

    private boolean couldBeOf(int s, int lord) {
        supposed.copy(laid);
        supposed.lord[s] = lord;
        then.begin(supposed);
        for (int d = 0; d < MOST_BEHIND; d++) {
            then.goDay(supposed);
            if (sights.deny(s, then.days, then.how[s])) {
                return false;
            }
        }
        return true;
    }

    private int freeBehind(int n) {
        then.copy(now);
        then.goDays(supposed, n);
        int bits = 0;
        for (int s = 0; s < supposed.serfs; s++) {
            if (then.how[s] == FREE) {
                bits |= 1 << s;
            }
        }
        return bits;
    }

    private static int draw(int z, int day) {
        long x = 7919L * z + 6151L * day + 1L;
        return (int) (x * x % 65521L / 2L);
    }

    private void actByDraw(int draw) {
        if (laid.serfs < 1) {
            return;
        }
        int s = draw % laid.serfs;
        if (then.isOver(s)) {
            return;
        }
        int act = draw / 64 % 3;
        if (act == 0) {
            then.settle(s, laid.onRing(draw / 8));
        } else if (act == 1 && draw / 256 % 4 == 0) {
            then.goOut(s);
        }
    }

    // ---- numbers

    private static int power(int base, int times) {
        int product = 1;
        for (int i = 0; i < times; i++) {
            product *= base;
        }
        return product;
    }

    private static int commonDivisor(int a, int b) {
        int large = a;
        int small = b;
        // Two numbers of 32 bits need fewer than 50 turns.
        for (int i = 0; i < 64 && small != 0; i++) {
            int rest = large % small;
            large = small;
            small = rest;
        }
        return large;
    }

    /** THE TEXT, and how it is read. */
    private static final class Text {
        final char[] letters = new char[MOST_LETTERS];
        int length;
        /** Of the ITEM that is read. */
        final int[] number = new int[MOST_NUMBERS];
        int numbers;

        boolean add(char letter) {
            if (length >= MOST_LETTERS) {
                return false;
            }
            letters[length] = letter;
            length++;
            return true;
        }

        /** The place of the first ITEM that is not so, or NONE; told then holds what all tell. */
        int readInto(Told told) {
            told.clear();
            int place = 0;
            for (int items = 0; items < MOST_LETTERS && place < length; items++) {
                int next = readNumbers(place + 1);
                if (next == NONE || !told.accepts(letters[place], number, numbers)) {
                    return place;
                }
                place = next;
            }
            return NONE;
        }

        /** The place behind the ; that ends the numbers, or NONE if they are not well told. */
        int readNumbers(int from) {
            int place = from;
            for (numbers = 1; numbers <= MOST_NUMBERS; numbers++) {
                int figures = figuresAt(place);
                place += figures;
                if (figures == 0 || place >= length) {
                    return NONE;
                }
                number[numbers - 1] = valueOf(place - figures, place);
                char mark = letters[place];
                place++;
                if (mark == ';') {
                    return place;
                }
                if (mark != ',') {
                    return NONE;
                }
            }
            return NONE;
        }

        /** Two at most: a third one stands where a mark is due. */
        int figuresAt(int place) {
            if (!isFigure(place)) {
                return 0;
            }
            return isFigure(place + 1) ? 2 : 1;
        }

        boolean isFigure(int place) {
            return place < length && letters[place] >= '0' && letters[place] <= '9';
        }

        int valueOf(int from, int to) {
            int value = 0;
            for (int i = from; i < to; i++) {
                value = 10 * value + (letters[i] - '0');
            }
            return value;
        }
    }

    /** What a TEXT tells. */
    private static final class Told {
        int wanted;
        int quarters;
        /** One bit a QUARTER. */
        int guilds;
        int serfs;
        final int[] kind = new int[MOST_SERFS];
        final int[] lord = new int[MOST_SERFS];
        final int[] home = new int[MOST_SERFS];
        int men;
        /** Of MEN there is room for one more, whom HUNT supposes. */
        final int[] master = new int[MOST_MEN + 1];
        final int[] post = new int[MOST_MEN + 1];
        final int[] step = new int[MOST_MEN + 1];
        int notches;
        final int[] from = new int[MOST_NOTCHES];
        final int[] to = new int[MOST_NOTCHES];

        void clear() {
            wanted = 20;
            quarters = 4;
            guilds = 0;
            serfs = 0;
            men = 0;
            notches = 0;
        }

        void copy(Told other) {
            wanted = other.wanted;
            quarters = other.quarters;
            guilds = other.guilds;
            serfs = other.serfs;
            men = other.men;
            notches = other.notches;
            copyRow(other.kind, kind);
            copyRow(other.lord, lord);
            copyRow(other.home, home);
            copyRow(other.master, master);
            copyRow(other.post, post);
            copyRow(other.step, step);
            copyRow(other.from, from);
            copyRow(other.to, to);
        }

        boolean accepts(int letter, int[] number, int numbers) {
            switch (letter) {
                case 'n':
                    return numbers == 1 && acceptsWanted(number[0]);
                case 'c':
                    return numbers == 1 && acceptsQuarters(number[0]);
                case 'g':
                    return numbers == 1 && acceptsGuild(number[0]);
                case 's':
                    return numbers == 3 && acceptsSerf(number[0], number[1], number[2]);
                case 'm':
                    return numbers == 3 && acceptsMan(number[0], number[1], number[2]);
                case 'w':
                    return numbers == 2 && acceptsNotch(number[0], number[1]);
                default:
                    return false;
            }
        }

        boolean acceptsWanted(int n) {
            if (isNot(n, 2, MOST_WANTED)) {
                return false;
            }
            wanted = n;
            return true;
        }

        boolean acceptsQuarters(int c) {
            if (isNot(c, 2, MOST_QUARTERS) || guilds != 0 || serfs > 0 || men > 0 || notches > 0) {
                return false;
            }
            quarters = c;
            return true;
        }

        boolean acceptsGuild(int q) {
            if (isNot(q, 0, quarters - 1)) {
                return false;
            }
            guilds |= 1 << q;
            return true;
        }

        boolean acceptsSerf(int k, int l, int q) {
            if (isNot(k, PLAIN, RENAMED) || isNot(l, 0, MOST_LORDS - 1) || isNot(q, 0, quarters - 1)
                    || serfs >= MOST_SERFS) {
                return false;
            }
            kind[serfs] = k;
            lord[serfs] = l;
            home[serfs] = q;
            serfs++;
            return true;
        }

        boolean acceptsMan(int l, int a, int b) {
            if (isNot(l, 0, MOST_LORDS - 1) || isNot(a, 0, quarters - 1) || isNot(b, 0, MOST_STEP)
                    || men >= MOST_MEN) {
                return false;
            }
            return addMan(l, a, b);
        }

        boolean addMan(int l, int a, int b) {
            if (men > MOST_MEN) {
                return false;
            }
            master[men] = l;
            post[men] = a;
            step[men] = b;
            men++;
            return true;
        }

        boolean acceptsNotch(int f, int t) {
            if (isNot(f, 0, MOST_BEHIND) || isNot(t, f, MOST_BEHIND) || notches >= MOST_NOTCHES) {
                return false;
            }
            from[notches] = f;
            to[notches] = t;
            notches++;
            return true;
        }

        boolean hasGuild(int q) {
            return (guilds >> q & 1) == 1;
        }

        /** The QUARTER that one comes to who counts so far from QUARTER 0. */
        int onRing(int steps) {
            return quarters < 1 ? 0 : steps % quarters;
        }

        boolean areNext(int q, int r) {
            return onRing(q + 1) == r || onRing(r + 1) == q;
        }

        /** The last DAY that one NOTCH proves which proves this one too, or NONE. */
        int provedFrom(int day) {
            int last = NONE;
            for (int i = 0; i < notches; i++) {
                if (from[i] <= day && day <= to[i]) {
                    last = Math.max(last, to[i]);
                }
            }
            return last;
        }
    }

    private static void copyRow(int[] from, int[] to) {
        System.arraycopy(from, 0, to, 0, Math.min(from.length, to.length));
    }

    /** How SERFS and MEN stand on one DAY. */
    private static final class Standing {
        int days;
        final int[] how = new int[MOST_SERFS];
        final int[] quarter = new int[MOST_SERFS];
        final int[] stayed = new int[MOST_SERFS];
        /** Of RENAMED ones only. */
        final int[] met = new int[MOST_SERFS];
        final int[] post = new int[MOST_MEN + 1];

        void begin(Told told) {
            days = 0;
            for (int s = 0; s < MOST_SERFS; s++) {
                how[s] = INSIDE;
                stayed[s] = 0;
                met[s] = 0;
            }
            copyRow(told.home, quarter);
            copyRow(told.post, post);
        }

        void copy(Standing other) {
            days = other.days;
            copyRow(other.how, how);
            copyRow(other.quarter, quarter);
            copyRow(other.stayed, stayed);
            copyRow(other.met, met);
            copyRow(other.post, post);
        }

        boolean isOver(int s) {
            return how[s] == TAKEN || how[s] == FREE;
        }

        boolean livesIn(int s, int q) {
            return how[s] == INSIDE && quarter[s] == q;
        }

        /** One who is OUTSIDE has STAYED no DAY already, see goOut. */
        void settle(int s, int q) {
            how[s] = INSIDE;
            quarter[s] = q;
        }

        void goOut(int s) {
            how[s] = OUTSIDE;
            stayed[s] = 0;
        }

        int howMany(Told told, int so) {
            int many = 0;
            for (int s = 0; s < told.serfs; s++) {
                if (how[s] == so) {
                    many++;
                }
            }
            return many;
        }

        int menIn(Told told, int lord, int q) {
            int many = 0;
            for (int m = 0; m < told.men; m++) {
                if (told.master[m] == lord && post[m] == q) {
                    many++;
                }
            }
            return many;
        }

        /** Would this SERF be TAKEN, or MET as a RENAMED one, if he lived in q on this DAY? */
        boolean isFoundIn(Told told, int s, int q) {
            int lord = told.lord[s];
            boolean met = menIn(told, lord, q) > 0;
            if (told.kind[s] == CRAFTSMAN) {
                return met && !told.hasGuild(q);
            }
            if (told.kind[s] == MOTHER) {
                return met || menIn(told, lord, told.onRing(q + 1)) > 0
                        || menIn(told, lord, told.onRing(q + told.quarters - 1)) > 0;
            }
            return met;
        }

        void goDays(Told told, int n) {
            for (int d = 0; d < n; d++) {
                goDay(told);
            }
        }

        void goDay(Told told) {
            for (int s = 0; s < told.serfs; s++) {
                if (how[s] == INSIDE) {
                    stayOrBeTaken(told, s);
                }
            }
            menGoOn(told);
            days++;
        }

        void menGoOn(Told told) {
            for (int m = 0; m < told.men; m++) {
                post[m] = told.onRing(post[m] + told.step[m]);
            }
        }

        void stayOrBeTaken(Told told, int s) {
            if (isFoundIn(told, s, quarter[s])) {
                if (told.kind[s] == RENAMED) {
                    met[s]++;
                }
                if (told.kind[s] != RENAMED || met[s] >= 2) {
                    how[s] = TAKEN;
                    return;
                }
            }
            stayed[s]++;
            if (stayed[s] >= told.wanted) {
                how[s] = FREE;
            }
        }
    }

    /** Standings one on the other, the latest on top: a full pile loses its lowest. */
    private static final class Pile {
        final Standing[] standings;
        int size;

        Pile(int most) {
            standings = new Standing[Math.max(most, 1)];
            for (int i = 0; i < standings.length; i++) {
                standings[i] = new Standing();
            }
        }

        void put(Standing standing) {
            if (size >= standings.length) {
                loseLowest();
            }
            standings[size].copy(standing);
            size++;
        }

        void loseLowest() {
            Standing lowest = standings[0];
            for (int i = 1; i < standings.length; i++) {
                standings[i - 1] = standings[i];
            }
            size = standings.length - 1;
            standings[size] = lowest;
        }

        void takeInto(Standing standing) {
            if (size > 0) {
                size--;
                standing.copy(standings[size]);
            }
        }
    }

    /** What is SEEN. */
    private static final class Sights {
        final int[] serfSeen = new int[MOST_SEEN];
        final int[] daySeen = new int[MOST_SEEN];
        final int[] howSeen = new int[MOST_SEEN];
        int size;

        boolean add(int s, int day, int how) {
            if (size >= MOST_SEEN) {
                return false;
            }
            serfSeen[size] = s;
            daySeen[size] = day;
            howSeen[size] = how;
            size++;
            return true;
        }

        boolean deny(int s, int day, int how) {
            for (int i = 0; i < size; i++) {
                if (serfSeen[i] == s && daySeen[i] == day && howSeen[i] != how) {
                    return true;
                }
            }
            return false;
        }
    }

    /** WAYS of one SERF, from the last DAY back to the first: each QUARTER is one bit. */
    private static final class Ways {
        /** DAYS that he lacks. */
        int lacks;
        /** May he be MET once and not be TAKEN? 1 then, else 0. */
        int spare;
        /** Where he would be found on a DAY. */
        final int[] found = new int[MOST_WANTED];
        /** Where he may be on a DAY so that he is FREE in the end: with nothing to spare [0], with a spare one [1]. */
        final int[][] good = new int[2][MOST_WANTED + 1];

        /** The MEN of the standing go on by as many DAYS as he lacks. */
        void look(Told told, Standing standing, int s) {
            lacks = Math.max(0, Math.min(MOST_WANTED, told.wanted - standing.stayed[s]));
            spare = told.kind[s] == RENAMED && standing.met[s] == 0 ? 1 : 0;
            for (int d = 0; d < lacks; d++) {
                found[d] = bitsFound(told, standing, s);
                standing.menGoOn(told);
            }
            int all = (1 << told.quarters) - 1;
            good[0][lacks] = all;
            good[1][lacks] = all;
            for (int d = lacks - 1; d >= 0; d--) {
                good[0][d] = bitsReaching(told, good[0][d + 1]) & ~found[d];
                good[1][d] = bitsReaching(told, good[1][d + 1]) & ~found[d]
                        | bitsReaching(told, good[0][d + 1]) & found[d];
            }
        }

        int bitsFound(Told told, Standing standing, int s) {
            int bits = 0;
            for (int q = 0; q < told.quarters; q++) {
                if (standing.isFoundIn(told, s, q)) {
                    bits |= 1 << q;
                }
            }
            return bits;
        }

        /** From where one of these is his own QUARTER or one next to it. */
        int bitsReaching(Told told, int bits) {
            int reaching = 0;
            for (int q = 0; q < told.quarters; q++) {
                if (lowestNear(told, q, bits) != NONE) {
                    reaching |= 1 << q;
                }
            }
            return reaching;
        }

        int lowestNear(Told told, int q, int bits) {
            for (int r = 0; r < told.quarters; r++) {
                if ((bits >> r & 1) == 1 && (r == q || told.areNext(q, r))) {
                    return r;
                }
            }
            return NONE;
        }

        /** Of the first WAY from a QUARTER the k-th, or NONE. */
        int quarterOn(Told told, int start, int k) {
            if (k > lacks) {
                return NONE;
            }
            int q = start;
            int left = spare;
            for (int d = 0; d < k; d++) {
                q = lowestNear(told, q, good[left][d]);
                if (q == NONE) {
                    return NONE;
                }
                if ((found[d] >> q & 1) == 1) {
                    left = 0;
                }
            }
            return q;
        }
    }
}
