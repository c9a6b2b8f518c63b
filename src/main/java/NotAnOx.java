import java.util.Arrays;

/** A king's men ask each village of a shire what there is: what is sworn, written, moved and hidden. */
public final class NotAnOx {
    public static final int BAD = -1, NO = -2, FULL = -3, NONE = -4;

    private static final String FIRST_SHIRE =
        "v0,12;v1,20;v2,9;v3,15;v4,18;v1,7;w0,1,2;w1,2,3;w2,3,1;w3,4,2;w4,5,4;w0,5,6;w1,4,3;p0;p3;";

    private static final int MOST_LETTERS = 200;
    private static final int MOST_VILLAGES = 7;
    private static final int MOST_PARTIES = 3;
    private static final int MOST_OXEN = 60;
    private static final int MOST_DAYS = 20;
    private static final int MOST_SEEN = 6;
    private static final int MOST_UNDONE = 8;
    private static final int MOST_KEPT = 2;
    private static final int MOST_STEPS = 40;
    private static final int SETS = 1 << MOST_VILLAGES;

    private static final int HONEST = 0;
    private static final int HIDER = 1;
    private static final int WASTE = 2;
    private static final int COPIER = 3;
    private static final int MOVER = 4;
    private static final int KINDS = 5;

    /** Keeps differences, that can be below 0, apart from the answers BAD, NO, FULL, NONE. */
    private static final int LIFT = 500;

    /** Above all days that any road can take, and low enough to be added up. */
    private static final int UNREACHED = 1000000;

    private final Scroll scroll;
    private final Reader reader;
    private final Land draft;
    private final Land land;
    private final Book now;
    private final Book trial;
    private final Pile past;
    private final Pile kept;
    private final Sightings seen;
    private final Sharing sharing;
    private final Orders orders;
    private final Chance chance;

    public NotAnOx() {
        scroll = new Scroll();
        reader = new Reader();
        draft = new Land();
        land = new Land();
        now = new Book(land);
        trial = new Book(land);
        past = new Pile(land, MOST_UNDONE);
        kept = new Pile(land, MOST_KEPT);
        seen = new Sightings();
        sharing = new Sharing(land);
        orders = new Orders(land);
        chance = new Chance(land);
        for (int i = 0; i < FIRST_SHIRE.length(); i++) {
            scroll.add(FIRST_SHIRE.charAt(i));
        }
        layScroll();
        scroll.clear();
    }

    // ---- shires

    public int write(int letter) {
        if (!isWithin(letter, 32, 126)) {
            return BAD;
        }
        if (scroll.isFull()) {
            return FULL;
        }
        scroll.add((char) letter);
        return scroll.size;
    }

    public int wipe() {
        int was = scroll.size;
        scroll.clear();
        return was;
    }

    public int fault() {
        return reader.readAll(scroll, draft);
    }

    public int lay() {
        if (reader.readAll(scroll, draft) != NONE || draft.villages == 0 || draft.parties == 0) {
            return NO;
        }
        layScroll();
        return land.villages;
    }

    public int village(int v, int what) {
        if (!isVillage(v)) {
            return BAD;
        }
        switch (what) {
            case 0:
                return land.kind[v];
            case 1:
                return now.oxen[v];
            case 2:
                return now.holds(v) ? now.written[v] : NONE;
            case 3:
                return now.isChecked(v) ? 1 : 0;
            case 4:
                return now.holds(v) ? NONE : now.sworn(v, land.kind[v], land.honestOnes);
            case 5:
                return land.near[v];
            default:
                return BAD;
        }
    }

    public int party(int p, int what) {
        if (!isParty(p) || !isWithin(what, 0, 1)) {
            return BAD;
        }
        return what == 0 ? now.place[p] : now.days[p];
    }

    public int far(int a, int b) {
        if (!isVillage(a) || !isVillage(b)) {
            return BAD;
        }
        return land.far[a][b] < UNREACHED ? land.far[a][b] : NONE;
    }

    // ---- the book

    public int ask(int p, int v) {
        if (!isParty(p) || !isVillage(v)) {
            return BAD;
        }
        if (!now.canBeAsked(p, v)) {
            return NO;
        }
        past.push(now);
        return now.askBy(p, v);
    }

    public int check(int v) {
        if (!isVillage(v)) {
            return BAD;
        }
        if (!now.canBeChecked(v)) {
            return NO;
        }
        past.push(now);
        return now.writeOxen(v) + LIFT;
    }

    public int strike(int v) {
        if (!isVillage(v)) {
            return BAD;
        }
        if (!now.holds(v)) {
            return NO;
        }
        past.push(now);
        return now.strikeOut(v);
    }

    public int undo() {
        if (past.size == 0) {
            return NO;
        }
        past.popInto(now);
        return past.size;
    }

    // ---- the rest

    public int soonest(int v) {
        if (v != -1 && !isVillage(v)) {
            return BAD;
        }
        if (v != -1 && now.holds(v)) {
            return NONE;
        }
        sharing.seek(now);
        return v == -1 ? sharing.fewest : sharing.whoAsks(v);
    }

    public int most(int k) {
        return bestOrder(k, true);
    }

    public int least(int k) {
        return bestOrder(k, false);
    }

    public int checks(int n, int what) {
        if (!isWithin(n, 1, 3) || !isWithin(what, 0, 1)) {
            return BAD;
        }
        int best = bestChecks(n);
        return what == 0 ? now.gainOf(best) + LIFT : best;
    }

    // ---- what was seen

    public int see(int v, int n) {
        if (!isVillage(v) || !isWithin(n, 0, MOST_OXEN)) {
            return BAD;
        }
        if (seen.isFull()) {
            return FULL;
        }
        seen.add(v, n);
        return seen.size;
    }

    public int forget() {
        int were = seen.size;
        seen.clear();
        return were;
    }

    public int kinds(int v) {
        if (!isVillage(v)) {
            return BAD;
        }
        if (now.holds(v)) {
            return NO;
        }
        int bits = 0;
        for (int kind = 0; kind < KINDS; kind++) {
            if (seen.fits(v, now.sworn(v, kind, land.honestOnes))) {
                bits |= 1 << kind;
            }
        }
        return bits;
    }

    public int copies() {
        int bits = 0;
        for (int v = 0; v < land.villages; v++) {
            if (now.holds(v) && now.hasTwin(v)) {
                bits |= 1 << v;
            }
        }
        return bits;
    }

    public int agree(int a, int b) {
        if (!isVillage(a) || !isVillage(b) || a == b) {
            return BAD;
        }
        if (!now.holds(a) || !now.holds(b)) {
            return NO;
        }
        return now.gainOf(1 << a | 1 << b) == 0 ? 1 : 0;
    }

    // ---- chance, shires

    public int honest(int n, int x, int part) {
        if (!isWithin(n, 0, 500) || !isWithin(x, 0, 10) || !isWithin(part, 0, 1)) {
            return BAD;
        }
        chance.weigh(now, n, x);
        return part == 0 ? chance.above : chance.below;
    }

    public int shire(int z, int n, int what) {
        if (!isWithin(z, 0, 9999) || !isWithin(n, 1, MOST_STEPS) || !isWithin(what, 0, 1)) {
            return BAD;
        }
        trial.copyFrom(now);
        for (int k = 0; k < n; k++) {
            stepByDraw(drawOf(z, k));
        }
        return what == 0 ? trial.found() : trial.mostDays();
    }

    public int keep() {
        if (kept.isFull()) {
            return FULL;
        }
        kept.push(now);
        return kept.size;
    }

    public int back() {
        if (kept.size == 0) {
            return NO;
        }
        kept.popInto(now);
        past.clear();
        return kept.size;
    }

    public int count(int what) {
        switch (what) {
            case 0:
                return land.villages;
            case 1:
                return land.parties;
            case 2:
                return Integer.bitCount(now.inBook);
            case 3:
                return Integer.bitCount(now.checked);
            case 4:
                return now.found();
            case 5:
                return now.allOxen();
            case 6:
                return now.mostDays();
            case 7:
                return seen.size;
            case 8:
                return past.size;
            case 9:
                return kept.size;
            case 10:
                return scroll.size;
            default:
                return BAD;
        }
    }

    // ---- helpers of the face

    private static boolean isWithin(int number, int low, int high) {
        return number >= low && number <= high;
    }

    private static int lowestOf(int bits) {
        for (int v = 0; v < MOST_VILLAGES; v++) {
            if ((bits >> v & 1) != 0) {
                return v;
            }
        }
        return NONE;
    }

    private boolean isVillage(int v) {
        return isWithin(v, 0, land.villages - 1);
    }

    private boolean isParty(int p) {
        return isWithin(p, 0, land.parties - 1);
    }

    /** The scroll has been read without fault ahead of this. */
    private void layScroll() {
        reader.readAll(scroll, land);
        land.measure();
        now.open();
        seen.clear();
        past.clear();
        kept.clear();
    }

    private int bestOrder(int k, boolean upwards) {
        if (!isWithin(k, 0, MOST_VILLAGES)) {
            return BAD;
        }
        if (k > now.restSize()) {
            return NONE;
        }
        orders.seek(now, upwards);
        return k == 0 ? orders.bestFound : orders.best[k - 1];
    }

    /** Sets go by from the lowest bits on, so that the first of several stays. */
    private int bestChecks(int n) {
        int open = now.inBook & ~now.checked;
        int wanted = Math.min(n, Integer.bitCount(open));
        int best = NONE;
        for (int set = 0; set < SETS; set++) {
            if ((set & ~open) == 0 && Integer.bitCount(set) == wanted
                    && (best == NONE || now.gainOf(set) > now.gainOf(best))) {
                best = set;
            }
        }
        return best;
    }

    private static int drawOf(int z, int k) {
        long x = 7919L * z + 6151L * k + 1L;
        return (int) (x * x % 65521L / 2L);
    }

    private void stepByDraw(int draw) {
        if (land.parties < 1 || land.villages < 1) {
            return;
        }
        int p = draw % land.parties;
        int v = draw / 8 % land.villages;
        int turn = draw / 64 % 3;
        if (trial.canBeAsked(p, v)) {
            trial.askBy(p, v);
        } else if (turn == 0 && trial.canBeChecked(v)) {
            trial.writeOxen(v);
        } else if (turn == 1 && trial.holds(v)) {
            trial.strikeOut(v);
        }
    }

    /** THE TEXT. */
    private static final class Scroll {
        private final char[] letters = new char[MOST_LETTERS];
        private int size;

        boolean isFull() {
            return size >= MOST_LETTERS;
        }

        void add(char letter) {
            if (!isFull()) {
                letters[size] = letter;
                size++;
            }
        }

        void clear() {
            size = 0;
        }

        /** Behind the last letter there are signs that no item has. */
        char letterAt(int place) {
            return place >= 0 && place < size ? letters[place] : (char) 0;
        }
    }

    /** Reads a scroll, item by item. */
    private static final class Reader {
        private final int[] numbers = new int[3];
        private int place;

        /** The place of the first item that is not so, NONE without one; the land has the items ahead of it. */
        int readAll(Scroll scroll, Land land) {
            land.clear();
            place = 0;
            for (int item = 0; item < MOST_LETTERS && place < scroll.size; item++) {
                int first = place;
                if (!readItem(scroll, land)) {
                    return first;
                }
            }
            return NONE;
        }

        private boolean readItem(Scroll scroll, Land land) {
            char letter = scroll.letterAt(place);
            place++;
            if (letter == 'v') {
                return readNumbers(scroll, 2) && land.addVillage(numbers[0], numbers[1]);
            }
            if (letter == 'w') {
                return readNumbers(scroll, 3) && land.addWay(numbers[0], numbers[1], numbers[2]);
            }
            return letter == 'p' && readNumbers(scroll, 1) && land.addParty(numbers[0]);
        }

        private boolean readNumbers(Scroll scroll, int wanted) {
            for (int i = 0; i < wanted && i < numbers.length; i++) {
                numbers[i] = readNumber(scroll);
                char end = i == wanted - 1 ? ';' : ',';
                if (numbers[i] == NONE || scroll.letterAt(place) != end) {
                    return false;
                }
                place++;
            }
            return true;
        }

        private int readNumber(Scroll scroll) {
            int number = NONE;
            for (int figures = 0; figures < 2; figures++) {
                char sign = scroll.letterAt(place);
                if (sign < '0' || sign > '9') {
                    return number;
                }
                number = (figures == 0 ? 0 : number * 10) + (sign - '0');
                place++;
            }
            return number;
        }
    }

    /** What a text tells, and what asking never changes. */
    private static final class Land {
        private final int[] kind = new int[MOST_VILLAGES];
        private final int[] oxen = new int[MOST_VILLAGES];
        private final int[] start = new int[MOST_PARTIES];
        private final int[] near = new int[MOST_VILLAGES];
        private final int[][] far = new int[MOST_VILLAGES][MOST_VILLAGES];
        private int villages;
        private int parties;
        private int honestOnes;

        void clear() {
            villages = 0;
            parties = 0;
            honestOnes = 0;
            Arrays.fill(kind, 0);
            Arrays.fill(oxen, 0);
            Arrays.fill(start, 0);
            Arrays.fill(near, 0);
            for (int a = 0; a < MOST_VILLAGES; a++) {
                for (int b = 0; b < MOST_VILLAGES; b++) {
                    far[a][b] = a == b ? 0 : UNREACHED;
                }
            }
        }

        boolean addVillage(int itsKind, int itsOxen) {
            if (villages >= MOST_VILLAGES || !isWithin(itsKind, 0, KINDS - 1) || !isWithin(itsOxen, 0, MOST_OXEN)) {
                return false;
            }
            kind[villages] = itsKind;
            oxen[villages] = itsOxen;
            if (itsKind == HONEST) {
                honestOnes |= 1 << villages;
            }
            villages++;
            return true;
        }

        /** Until measure() the row far holds single ways alone, so a later one of the same two takes its place. */
        boolean addWay(int a, int b, int length) {
            if (!isTold(a) || !isTold(b) || a == b || !isWithin(length, 1, MOST_DAYS)) {
                return false;
            }
            far[a][b] = length;
            far[b][a] = length;
            near[a] |= 1 << b;
            near[b] |= 1 << a;
            return true;
        }

        boolean addParty(int v) {
            if (parties >= MOST_PARTIES || !isTold(v)) {
                return false;
            }
            start[parties] = v;
            parties++;
            return true;
        }

        private boolean isTold(int v) {
            return isWithin(v, 0, villages - 1);
        }

        /** Each village in turn may be passed on the way, which makes the fewest days of single ways. */
        void measure() {
            for (int by = 0; by < villages; by++) {
                for (int a = 0; a < villages; a++) {
                    for (int b = 0; b < villages; b++) {
                        far[a][b] = Math.min(far[a][b], far[a][by] + far[by][b]);
                    }
                }
            }
        }
    }

    /** All that asking, checking and striking change. */
    private static final class Book {
        private final Land land;
        private final int[] oxen = new int[MOST_VILLAGES];
        private final int[] written = new int[MOST_VILLAGES];
        private final int[] place = new int[MOST_PARTIES];
        private final int[] days = new int[MOST_PARTIES];
        private int inBook;
        private int checked;

        Book(Land itsLand) {
            land = itsLand;
        }

        void open() {
            inBook = 0;
            checked = 0;
            System.arraycopy(land.oxen, 0, oxen, 0, MOST_VILLAGES);
            Arrays.fill(written, 0);
            System.arraycopy(land.start, 0, place, 0, MOST_PARTIES);
            Arrays.fill(days, 0);
        }

        void copyFrom(Book other) {
            copyEntries(other);
            System.arraycopy(other.place, 0, place, 0, MOST_PARTIES);
            System.arraycopy(other.days, 0, days, 0, MOST_PARTIES);
        }

        /** Where no party goes anywhere, this is all that is needed. */
        void copyEntries(Book other) {
            inBook = other.inBook;
            checked = other.checked;
            System.arraycopy(other.oxen, 0, oxen, 0, MOST_VILLAGES);
            System.arraycopy(other.written, 0, written, 0, MOST_VILLAGES);
        }

        boolean holds(int v) {
            return (inBook >> v & 1) != 0;
        }

        boolean isChecked(int v) {
            return (checked >> v & 1) != 0;
        }

        boolean canBeChecked(int v) {
            return holds(v) && !isChecked(v);
        }

        boolean canBeAsked(int p, int v) {
            return !holds(v) && land.far[place[p]][v] < UNREACHED;
        }

        int rest() {
            return (1 << land.villages) - 1 & ~inBook;
        }

        int restSize() {
            return Integer.bitCount(rest());
        }

        /** What v would swear to, were it of that kind and those villages (bits) honest. */
        int sworn(int v, int kind, int honestOnes) {
            int askedNear = land.near[v] & inBook;
            boolean watched = (askedNear & honestOnes) != 0;
            switch (kind) {
                case HIDER:
                    return watched ? oxen[v] : oxen[v] / 2;
                case WASTE:
                    return watched ? oxen[v] : 0;
                case COPIER:
                    return copied(v, lowestOf(askedNear));
                case MOVER:
                    return askedNear != 0 ? 0 : oxen[v];
                default:
                    return oxen[v];
            }
        }

        private int copied(int v, int from) {
            return from != NONE ? written[from] : oxen[v];
        }

        int swear(int v, int kind, int honestOnes) {
            written[v] = sworn(v, kind, honestOnes);
            int goal = kind == MOVER ? lowestOf(land.near[v] & inBook) : NONE;
            if (goal != NONE) {
                oxen[goal] += oxen[v];
                oxen[v] = 0;
            }
            inBook |= 1 << v;
            return written[v];
        }

        int askBy(int p, int v) {
            days[p] += land.far[place[p]][v] + 1;
            place[p] = v;
            return swear(v, land.kind[v], land.honestOnes);
        }

        /** How many more are written by it. */
        int writeOxen(int v) {
            int more = oxen[v] - written[v];
            written[v] = oxen[v];
            checked |= 1 << v;
            return more;
        }

        int strikeOut(int v) {
            inBook &= ~(1 << v);
            checked &= ~(1 << v);
            return written[v];
        }

        int found() {
            int sum = 0;
            for (int v = 0; v < land.villages; v++) {
                sum += (inBook >> v & 1) != 0 ? written[v] : 0;
            }
            return sum;
        }

        int allOxen() {
            int sum = 0;
            for (int v = 0; v < land.villages; v++) {
                sum += oxen[v];
            }
            return sum;
        }

        int mostDays() {
            int longest = 0;
            for (int p = 0; p < land.parties; p++) {
                longest = Math.max(longest, days[p]);
            }
            return longest;
        }

        /** How many more would be written of a set of villages in the book, were their oxen written. */
        int gainOf(int set) {
            int sum = 0;
            for (int v = 0; v < land.villages; v++) {
                sum += (set >> v & 1) != 0 ? oxen[v] - written[v] : 0;
            }
            return sum;
        }

        boolean hasTwin(int v) {
            int askedNear = land.near[v] & inBook;
            for (int other = 0; other < land.villages; other++) {
                if ((askedNear >> other & 1) != 0 && written[other] == written[v]) {
                    return true;
                }
            }
            return false;
        }
    }

    /** Books as they once stood, the latest on top; a full pile loses its oldest one. */
    private static final class Pile {
        private final Book[] books;
        private int oldest;
        private int size;

        Pile(Land land, int most) {
            books = new Book[Math.max(1, most)];
            for (int i = 0; i < books.length; i++) {
                books[i] = new Book(land);
            }
        }

        boolean isFull() {
            return size >= books.length;
        }

        void clear() {
            oldest = 0;
            size = 0;
        }

        void push(Book book) {
            if (isFull()) {
                oldest = slotOf(1);
                size--;
            }
            books[slotOf(size)].copyFrom(book);
            size++;
        }

        void popInto(Book book) {
            if (size > 0) {
                size--;
                book.copyFrom(books[slotOf(size)]);
            }
        }

        /** The row goes round, so that losing the oldest one moves no book. */
        private int slotOf(int height) {
            int slot = oldest + height;
            return slot < books.length ? slot : slot - books.length;
        }
    }

    /** What is seen: that a village would swear to a number. */
    private static final class Sightings {
        private final int[] village = new int[MOST_SEEN];
        private final int[] number = new int[MOST_SEEN];
        private int size;

        boolean isFull() {
            return size >= MOST_SEEN;
        }

        void clear() {
            size = 0;
        }

        void add(int v, int n) {
            if (!isFull()) {
                village[size] = v;
                number[size] = n;
                size++;
            }
        }

        boolean fits(int v, int sworn) {
            for (int i = 0; i < size; i++) {
                if (village[i] == v && number[i] != sworn) {
                    return false;
                }
            }
            return true;
        }
    }

    /** Which party asks which of the rest, so that all are asked soonest. */
    private static final class Sharing {
        private final Land land;
        private final int[] walk = new int[SETS * MOST_VILLAGES];
        private final int[][] shortest = new int[MOST_PARTIES][SETS];
        private final int[] share = new int[MOST_PARTIES];
        private final int[] bestShare = new int[MOST_PARTIES];
        private int fewest;

        Sharing(Land itsLand) {
            land = itsLand;
        }

        /** Leaves in fewest how many days it takes, or NONE. */
        void seek(Book book) {
            int rest = book.rest();
            int sharings = 1;
            for (int i = 0; i < book.restSize(); i++) {
                sharings *= land.parties;
            }
            for (int p = 0; p < land.parties; p++) {
                walkFrom(book.place[p], rest, shortest[p]);
            }
            fewest = NONE;
            for (int code = 0; code < sharings; code++) {
                shareOut(code, rest);
                int days = daysOfShares(book);
                if (days != NONE && (fewest == NONE || days < fewest)) {
                    fewest = days;
                    System.arraycopy(share, 0, bestShare, 0, MOST_PARTIES);
                }
            }
        }

        int whoAsks(int v) {
            if (fewest == NONE) {
                return NONE;
            }
            for (int p = 0; p < land.parties; p++) {
                if ((bestShare[p] >> v & 1) != 0) {
                    return p;
                }
            }
            return NONE;
        }

        /** Fills in the fewest days of asking each set of the rest from a place, by the last one asked. */
        private void walkFrom(int place, int rest, int[] shortestOf) {
            shortestOf[0] = 0;
            for (int set = 1; set < SETS; set++) {
                if ((set & ~rest) != 0) {
                    continue;
                }
                shortestOf[set] = UNREACHED;
                for (int last = 0; last < land.villages; last++) {
                    if ((set >> last & 1) != 0) {
                        int days = walkTo(place, set & ~(1 << last), last);
                        walk[set * MOST_VILLAGES + last] = days;
                        shortestOf[set] = Math.min(shortestOf[set], days);
                    }
                }
            }
        }

        private int walkTo(int place, int ahead, int last) {
            if (ahead == 0) {
                return Math.min(UNREACHED, land.far[place][last] + 1);
            }
            int fewestDays = UNREACHED;
            for (int from = 0; from < land.villages; from++) {
                if ((ahead >> from & 1) != 0) {
                    int walked = walk[ahead * MOST_VILLAGES + from];
                    fewestDays = Math.min(fewestDays, walked + land.far[from][last] + 1);
                }
            }
            return fewestDays;
        }

        /** The lowest village's party is the highest figure of the code, so that codes go by in the sharings' order. */
        private void shareOut(int code, int rest) {
            Arrays.fill(share, 0);
            int left = code;
            for (int v = land.villages - 1; v >= 0 && land.parties > 0; v--) {
                if ((rest >> v & 1) != 0) {
                    share[left % land.parties] |= 1 << v;
                    left /= land.parties;
                }
            }
        }

        private int daysOfShares(Book book) {
            int longest = 0;
            for (int p = 0; p < land.parties; p++) {
                int walked = shortest[p][share[p]];
                if (walked >= UNREACHED) {
                    return NONE;
                }
                longest = Math.max(longest, book.days[p] + walked);
            }
            return longest;
        }
    }

    /** In which order to ask the rest, so that most or least is found. */
    private static final class Orders {
        private final Land land;
        private final Book[] levels = new Book[MOST_VILLAGES + 1];
        private final int[] order = new int[MOST_VILLAGES];
        private final int[] best = new int[MOST_VILLAGES];
        private boolean upwards;
        private boolean hasBest;
        private int restSize;
        private int bestFound;

        Orders(Land itsLand) {
            land = itsLand;
            for (int depth = 0; depth < levels.length; depth++) {
                levels[depth] = new Book(itsLand);
            }
        }

        void seek(Book book, boolean mostIsBest) {
            upwards = mostIsBest;
            hasBest = false;
            restSize = book.restSize();
            levels[0].copyEntries(book);
            goOn(0);
        }

        private void goOn(int depth) {
            if (depth >= restSize || depth >= MOST_VILLAGES) {
                weighOrder(levels[depth].found());
                return;
            }
            Book here = levels[depth];
            Book next = levels[depth + 1];
            int rest = here.rest();
            for (int v = 0; v < land.villages; v++) {
                if ((rest >> v & 1) != 0) {
                    next.copyEntries(here);
                    next.swear(v, land.kind[v], land.honestOnes);
                    order[depth] = v;
                    goOn(depth + 1);
                }
            }
        }

        /** Orders come first ones first, so only a better one takes the place. */
        private void weighOrder(int found) {
            if (!hasBest || (upwards ? found > bestFound : found < bestFound)) {
                hasBest = true;
                bestFound = found;
                System.arraycopy(order, 0, best, 0, MOST_VILLAGES);
            }
        }
    }

    /** The chance that enough is found, when each of the rest may turn out honest. */
    private static final class Chance {
        private final Land land;
        private final Book trial;
        private int above;
        private int below;

        Chance(Land itsLand) {
            land = itsLand;
            trial = new Book(itsLand);
        }

        /** Leaves the chance, in lowest terms, in above and below. */
        void weigh(Book book, int n, int x) {
            int rest = book.rest();
            above = 0;
            below = weightOf(rest, 0, 10);
            for (int turned = 0; turned < SETS; turned++) {
                if ((turned & ~rest) == 0 && foundWith(book, turned) >= n) {
                    above += weightOf(turned, rest & ~turned, x);
                }
            }
            int shared = commonDivisor(above, below);
            if (shared > 0) {
                above /= shared;
                below /= shared;
            }
        }

        /** Out of tens: x for each of the turned, what is left of ten for each of the others. */
        private static int weightOf(int turned, int others, int x) {
            int weight = 1;
            for (int v = 0; v < MOST_VILLAGES; v++) {
                if ((turned >> v & 1) != 0) {
                    weight *= x;
                } else if ((others >> v & 1) != 0) {
                    weight *= 10 - x;
                }
            }
            return weight;
        }

        private int foundWith(Book book, int turned) {
            int honestOnes = land.honestOnes | turned;
            trial.copyEntries(book);
            for (int v = 0; v < land.villages; v++) {
                if (!book.holds(v)) {
                    trial.swear(v, (turned >> v & 1) != 0 ? HONEST : land.kind[v], honestOnes);
                }
            }
            return trial.found();
        }

        private static int commonDivisor(int a, int b) {
            int high = a;
            int low = b;
            for (int step = 0; step < 64 && low != 0; step++) {
                int left = high % low;
                high = low;
                low = left;
            }
            return high;
        }
    }
}
