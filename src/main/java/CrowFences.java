/** Snow fences let to crows: see README.md; the promises stand in the project's document. */
public final class CrowFences {
    public static final int NONE = -1, UNKNOWN = -1000000001, OUTSIDE = -1000000002, NOT = -1000000003, FULL = -1000000004;

    private static final int MOST_LETTERS = 240;
    private static final int MOST_CELLS = 12;
    private static final int MOST_POSTS = 6;
    private static final int MOST_CROWS = 5;
    private static final int MOST_WINDS = 10;

    private static final int STRONGEST = 18;
    private static final int CALM = 9;
    private static final int MOST_SNOW = 9999;
    private static final int MOST_SPOONS = 999999;
    private static final int MOST_THAW = 99;
    private static final int LAST_HOUR = 9000;
    private static final int MOST_BLOWN = 60;
    private static final int MOST_TRIED = 40;
    private static final int MOST_NIGHTS = 60;
    private static final int BILLION = 1000000000;
    private static final int YARD_ZERO = 10000;

    private static final int MOST_UNDONE = 20;
    private static final int IMAGES = 2;
    private static final int MOST_SITS = 6;
    private static final int MOST_ENTRIES = 15;
    private static final int SETS_OF_POSTS = 64;
    private static final int UNTRIED = 0;
    private static final int OPENS = 1;
    private static final int CLOSES = 2;
    // Six posts and five crows have 4051 ways; the bound only shows that the loops over them end.
    private static final int MOST_WAYS = 5000;

    private static final int FAULT_PLACE = 1;
    private static final int FAULT_NUMBER = 2;
    private static final int FAULT_TOO_MANY = 3;
    private static final int FAULT_TAKEN = 4;

    private final Text text;
    private final Winter now;
    private final Winter trial;
    private final Past past;
    private final Draws draws;
    private final Image[] images;
    private final Letting letting;
    private final Sits sits;
    private final Book book;
    // A text is read into the draft, so that one with a fault leaves the plateau as it was.
    private Plan plan;
    private Plan draft;

    public CrowFences() {
        text = new Text();
        now = new Winter();
        trial = new Winter();
        past = new Past();
        draws = new Draws();
        images = new Image[IMAGES];
        for (int i = 0; i < IMAGES; i++) {
            images[i] = new Image();
        }
        letting = new Letting();
        sits = new Sits();
        book = new Book();
        plan = new Plan();
        draft = new Plan();
        now.begin(plan);
    }

    // ---- the plateau

    public int feed(int letter) {
        if (!within(letter, 0, 255)) {
            return OUTSIDE;
        }
        if (text.length >= MOST_LETTERS) {
            return FULL;
        }
        text.append(letter);
        return text.length;
    }

    public int plateau() {
        text.readInto(draft);
        if (text.faultKind != 0) {
            return -10 - text.faultKind;
        }
        Plan old = plan;
        plan = draft;
        draft = old;
        now.begin(plan);
        past.forget();
        for (int i = 0; i < IMAGES; i++) {
            images[i].kept = false;
        }
        sits.count = 0;
        book.count = 0;
        return plan.cells;
    }

    public int fault() {
        return text.faultAt;
    }

    public int told(int what) {
        switch (what) {
            case 0:
                return plan.cells;
            case 1:
                return plan.posts;
            case 2:
                return plan.crows;
            case 3:
                return plan.winds;
            case 4:
                return text.length;
            case 5:
                return now.hours;
            case 6:
                return now.spoons;
            case 7:
                return plan.road;
            case 8:
                return now.openRoad(plan);
            case 9:
                return now.standing;
            case 10:
                return now.letPosts();
            case 11:
                return now.allSnow();
            case 12:
                return sits.count;
            case 13:
                return book.count;
            case 14:
                return past.count;
            default:
                return OUTSIDE;
        }
    }

    public int snow(int a) {
        return isCell(a) ? now.snow[a] : UNKNOWN;
    }

    public int post(int p, int what) {
        if (!isPost(p)) {
            return UNKNOWN;
        }
        switch (what) {
            case 0:
                return now.cellOf[p];
            case 1:
                return plan.view[p];
            case 2:
                return now.crowOn[p];
            case 3:
                return now.standing >> p & 1;
            default:
                return OUTSIDE;
        }
    }

    public int crow(int c, int what) {
        if (!isCrow(c)) {
            return UNKNOWN;
        }
        switch (what) {
            case 0:
                return now.bid[c];
            case 1:
                return plan.perView[c];
            case 2:
                return now.postOf(c);
            case 3:
                return now.paid[c];
            default:
                return OUTSIDE;
        }
    }

    // ---- what is done

    public int hour(int n) {
        int refusal = refusalOfHours(n);
        if (refusal != 0) {
            return refusal;
        }
        past.note(now);
        now.passHours(plan, n, now.letPosts());
        return now.allSnow();
    }

    public int let(int p, int c) {
        if (!isPost(p) || !isCrow(c)) {
            return UNKNOWN;
        }
        if (now.crowOn[p] != NONE || now.postOf(c) != NONE) {
            return NOT;
        }
        past.note(now);
        int spoons = now.worthOf(plan, p, c);
        now.lease(p, c, spoons);
        return spoons;
    }

    public int giveUp(int p) {
        if (!isPost(p)) {
            return UNKNOWN;
        }
        int crow = now.crowOn[p];
        if (crow == NONE) {
            return NOT;
        }
        past.note(now);
        now.crowOn[p] = NONE;
        return crow;
    }

    public int move(int p, boolean right) {
        if (!isPost(p)) {
            return UNKNOWN;
        }
        int cell = now.freeCellBeside(plan, p, right);
        if (cell == NONE) {
            return NOT;
        }
        past.note(now);
        now.cellOf[p] = cell;
        return cell;
    }

    public int thaw(int t) {
        if (!within(t, 1, MOST_THAW)) {
            return OUTSIDE;
        }
        if (plan.cells == 0) {
            return NOT;
        }
        past.note(now);
        now.melt(t);
        return now.allSnow();
    }

    public int shout(int c) {
        if (!isCrow(c)) {
            return UNKNOWN;
        }
        past.note(now);
        now.bid[c] = Math.max(0, now.bid[c] - 1);
        return now.bid[c];
    }

    public int drift(int n) {
        int refusal = refusalOfHours(n);
        if (refusal != 0) {
            return refusal;
        }
        past.note(now);
        int letPosts = now.letPosts();
        for (int k = 0; k < n; k++) {
            int strong = draws.below(19);
            int fall = draws.below(11);
            now.blow(plan, strong, fall, letPosts);
        }
        return now.allSnow();
    }

    public int undo() {
        if (past.count == 0) {
            return NOT;
        }
        past.bringBack(now);
        return past.count;
    }

    // ---- tried

    public int lies(int a, int n) {
        if (!isCell(a)) {
            return UNKNOWN;
        }
        if (!within(n, 0, MOST_TRIED)) {
            return OUTSIDE;
        }
        tryHours(n);
        return trial.snow[a];
    }

    public int open(int n) {
        if (!within(n, 0, MOST_TRIED)) {
            return OUTSIDE;
        }
        tryHours(n);
        return trial.roadIsOpen(plan) ? 1 : 0;
    }

    public int worth(int p, int c) {
        return isPost(p) && isCrow(c) ? now.worthOf(plan, p, c) : UNKNOWN;
    }

    public int lets(int n, int p) {
        if (p != NONE && !isPost(p)) {
            return UNKNOWN;
        }
        if (!within(n, 1, MOST_TRIED)) {
            return OUTSIDE;
        }
        letting.findMost(plan, now, n);
        return p == NONE ? letting.mostSpoons : letting.crowOn[p];
    }

    public int fewest(int n) {
        if (!within(n, 1, MOST_TRIED)) {
            return OUTSIDE;
        }
        return letting.fewestPosts(plan, now, n);
    }

    public int yard(int p, int a, int n) {
        if (!isPost(p) || !isCell(a)) {
            return UNKNOWN;
        }
        if (!within(n, 0, MOST_TRIED)) {
            return OUTSIDE;
        }
        int cell = now.freeCellBeside(plan, p, true);
        if (cell == NONE) {
            return NONE;
        }
        tryHours(n);
        int unmoved = trial.snow[a];
        trial.copyFrom(now);
        trial.cellOf[p] = cell;
        trial.passHours(plan, n, now.letPosts());
        return trial.snow[a] - unmoved + YARD_ZERO;
    }

    public int out(int a, int t) {
        if (!isCell(a)) {
            return UNKNOWN;
        }
        if (!within(t, 1, MOST_THAW)) {
            return OUTSIDE;
        }
        return (now.snow[a] + t - 1) / t;
    }

    public int still(int n, int q) {
        if (!within(n, 0, MOST_NIGHTS) || !within(q, 0, 100)) {
            return OUTSIDE;
        }
        long odds = BILLION;
        for (int k = 0; k < n; k++) {
            odds = odds * (100 - q) / 100;
        }
        return (int) odds;
    }

    // ---- crows that were seen

    public int see(int c, int p) {
        if (!isCrow(c) || !isPost(p)) {
            return UNKNOWN;
        }
        if (sits.count >= MOST_SITS) {
            return FULL;
        }
        sits.note(c, p);
        return sits.count;
    }

    public int sublets(int what) {
        switch (what) {
            case 0:
                return sits.subletters(now);
            case 1:
                return sits.guests(now);
            default:
                return OUTSIDE;
        }
    }

    public int fit(int what) {
        if (!within(what, 0, 1)) {
            return OUTSIDE;
        }
        sits.findWays(plan);
        return what == 0 ? sits.waysThatFit : sits.postToLookAt(plan.posts);
    }

    public int write(int a, int snow) {
        if (!isCell(a)) {
            return UNKNOWN;
        }
        if (!within(snow, 0, MOST_SNOW)) {
            return OUTSIDE;
        }
        if (book.count >= MOST_ENTRIES) {
            return FULL;
        }
        book.enter(a, snow);
        return book.count;
    }

    public int tear() {
        int both = sits.count + book.count;
        sits.count = 0;
        book.count = 0;
        return both;
    }

    public int judge() {
        return book.firstWrong(now);
    }

    // ---- draws, images

    public int seed(int v) {
        if (v < 0) {
            return OUTSIDE;
        }
        int old = draws.seed;
        draws.seed = v;
        return old;
    }

    public int keep(int i) {
        if (!within(i, 0, IMAGES - 1)) {
            return UNKNOWN;
        }
        images[i].take(now, draws);
        past.forget();
        return 1;
    }

    public int goBack(int i) {
        if (!within(i, 0, IMAGES - 1)) {
            return UNKNOWN;
        }
        if (!images[i].kept) {
            return NOT;
        }
        images[i].give(now, draws);
        past.forget();
        return 1;
    }

    private static boolean within(int number, int least, int most) {
        return number >= least && number <= most;
    }

    private boolean isCell(int a) {
        return within(a, 0, plan.cells - 1);
    }

    private boolean isPost(int p) {
        return within(p, 0, plan.posts - 1);
    }

    private boolean isCrow(int c) {
        return within(c, 0, plan.crows - 1);
    }

    /** The refusal of n hours that should blow, or 0. */
    private int refusalOfHours(int n) {
        if (!within(n, 1, MOST_BLOWN)) {
            return OUTSIDE;
        }
        if (plan.cells == 0) {
            return NOT;
        }
        return now.hours > LAST_HOUR ? FULL : 0;
    }

    private void tryHours(int n) {
        trial.copyFrom(now);
        trial.passHours(plan, n, now.letPosts());
    }

    /** What a text told: it stays as it is until the next text without a fault. */
    private static final class Plan {
        int cells;
        int strongestHarmless;
        int deepestOpen;
        int road;
        int posts;
        int crows;
        int winds;
        final int[] cellOf = new int[MOST_POSTS];
        final int[] view = new int[MOST_POSTS];
        final int[] bid = new int[MOST_CROWS];
        final int[] perView = new int[MOST_CROWS];
        final int[] strong = new int[MOST_WINDS];
        final int[] fall = new int[MOST_WINDS];

        void clear() {
            cells = 0;
            road = 0;
            posts = 0;
            crows = 0;
            winds = 0;
        }

        boolean isRoad(int a) {
            return (road >> a & 1) != 0;
        }

        boolean hasPostIn(int a) {
            for (int p = 0; p < posts; p++) {
                if (cellOf[p] == a) {
                    return true;
                }
            }
            return false;
        }

        int allCells() {
            return (1 << cells) - 1;
        }

        int allPosts() {
            return (1 << posts) - 1;
        }
    }

    /** The letters that were fed, and the reading of them up to the first fault. */
    private static final class Text {
        final int[] letters = new int[MOST_LETTERS];
        int length;
        int faultKind;
        int faultAt = NONE;
        private int at;
        // Where the number that was read latest began: a cell that is taken is a fault there.
        private int numberAt;

        void append(int letter) {
            letters[length] = letter;
            length++;
        }

        void readInto(Plan plan) {
            plan.clear();
            faultKind = 0;
            faultAt = NONE;
            at = 0;
            skipBlanks();
            for (int clause = 0; clause < MOST_LETTERS && at < length && faultKind == 0; clause++) {
                readClause(plan);
                skipBlanks();
            }
            length = 0;
        }

        private void readClause(Plan plan) {
            int word = letters[at];
            if (plan.cells == 0 && word != 'w') {
                refuse(FAULT_PLACE, at);
                return;
            }
            switch (word) {
                case 'w':
                    readWidth(plan);
                    break;
                case 'r':
                    readRoad(plan);
                    break;
                case 'p':
                    readPost(plan);
                    break;
                case 'c':
                    readCrow(plan);
                    break;
                case 'h':
                    readWind(plan);
                    break;
                default:
                    refuse(FAULT_PLACE, at);
            }
            readEnd();
        }

        private void readWidth(Plan plan) {
            readWord(plan.cells == 0);
            plan.cells = readNumber(1, MOST_CELLS);
            plan.strongestHarmless = readNumber(0, 9);
            plan.deepestOpen = readNumber(0, 99);
        }

        private void readRoad(Plan plan) {
            readWord(true);
            int cell = readNumber(0, plan.cells - 1);
            if (faultKind == 0 && plan.isRoad(cell)) {
                refuse(FAULT_TAKEN, numberAt);
            }
            plan.road |= 1 << cell;
        }

        private void readPost(Plan plan) {
            readWord(plan.posts < MOST_POSTS);
            int cell = readNumber(0, plan.cells - 1);
            if (faultKind == 0 && plan.hasPostIn(cell)) {
                refuse(FAULT_TAKEN, numberAt);
            }
            int view = readNumber(0, 9);
            if (faultKind == 0) {
                plan.cellOf[plan.posts] = cell;
                plan.view[plan.posts] = view;
                plan.posts++;
            }
        }

        private void readCrow(Plan plan) {
            readWord(plan.crows < MOST_CROWS);
            int bid = readNumber(0, 99);
            int perView = readNumber(0, 9);
            if (faultKind == 0) {
                plan.bid[plan.crows] = bid;
                plan.perView[plan.crows] = perView;
                plan.crows++;
            }
        }

        private void readWind(Plan plan) {
            readWord(plan.winds < MOST_WINDS);
            int strong = readNumber(0, STRONGEST);
            int fall = readNumber(0, 30);
            if (faultKind == 0) {
                plan.strong[plan.winds] = strong;
                plan.fall[plan.winds] = fall;
                plan.winds++;
            }
        }

        private void readWord(boolean roomForIt) {
            if (!roomForIt) {
                refuse(FAULT_TOO_MANY, at);
            }
            at++;
        }

        /** The next number; 0 and a fault if there is none within these bounds, or was a fault ahead. */
        private int readNumber(int least, int most) {
            if (faultKind != 0) {
                return 0;
            }
            skipBlanks();
            numberAt = at;
            int value = 0;
            while (at < length && isFigure(letters[at])) {
                // A number of four figures is refused below, so that its value is no matter.
                value = (value * 10 + letters[at] - '0') % 10000;
                at++;
            }
            int figures = at - numberAt;
            if (figures == 0) {
                refuse(FAULT_PLACE, at);
            } else if (figures > 3 || value < least || value > most) {
                refuse(FAULT_NUMBER, numberAt);
            }
            return faultKind == 0 ? value : 0;
        }

        private void readEnd() {
            if (faultKind != 0) {
                return;
            }
            skipBlanks();
            if (at >= length || letters[at] != ';') {
                refuse(FAULT_PLACE, at);
            }
            at++;
        }

        private void skipBlanks() {
            while (at < length && letters[at] == ' ') {
                at++;
            }
        }

        private static boolean isFigure(int letter) {
            return letter >= '0' && letter <= '9';
        }

        /** Only the first fault counts: reading goes from left to right. */
        private void refuse(int kind, int place) {
            if (faultKind == 0) {
                faultKind = kind;
                faultAt = place;
            }
        }
    }

    /** All that hours, crows and moves change, and that is undone or kept in images as a whole. */
    private static final class Winter {
        final int[] snow = new int[MOST_CELLS];
        final int[] cellOf = new int[MOST_POSTS];
        final int[] crowOn = new int[MOST_POSTS];
        final int[] bid = new int[MOST_CROWS];
        final int[] paid = new int[MOST_CROWS];
        int standing;
        int hours;
        int spoons;

        void begin(Plan plan) {
            for (int a = 0; a < MOST_CELLS; a++) {
                snow[a] = 0;
            }
            for (int p = 0; p < MOST_POSTS; p++) {
                cellOf[p] = plan.cellOf[p];
                crowOn[p] = NONE;
            }
            for (int c = 0; c < MOST_CROWS; c++) {
                bid[c] = plan.bid[c];
                paid[c] = 0;
            }
            standing = plan.allPosts();
            hours = 0;
            spoons = 0;
        }

        void copyFrom(Winter other) {
            System.arraycopy(other.snow, 0, snow, 0, MOST_CELLS);
            System.arraycopy(other.cellOf, 0, cellOf, 0, MOST_POSTS);
            System.arraycopy(other.crowOn, 0, crowOn, 0, MOST_POSTS);
            System.arraycopy(other.bid, 0, bid, 0, MOST_CROWS);
            System.arraycopy(other.paid, 0, paid, 0, MOST_CROWS);
            standing = other.standing;
            hours = other.hours;
            spoons = other.spoons;
        }

        int letPosts() {
            int set = 0;
            for (int p = 0; p < MOST_POSTS; p++) {
                if (crowOn[p] != NONE) {
                    set |= 1 << p;
                }
            }
            return set;
        }

        int postOf(int crow) {
            for (int p = 0; p < MOST_POSTS; p++) {
                if (crowOn[p] == crow) {
                    return p;
                }
            }
            return NONE;
        }

        int worthOf(Plan plan, int p, int c) {
            return bid[c] + plan.perView[c] * plan.view[p];
        }

        void lease(int p, int c, int price) {
            crowOn[p] = c;
            standing |= 1 << p;
            paid[c] = Math.min(MOST_SPOONS, paid[c] + price);
            spoons = Math.min(MOST_SPOONS, spoons + price);
        }

        /** The cell to which a post can be moved, or NONE. */
        int freeCellBeside(Plan plan, int p, boolean right) {
            int cell = cellOf[p] + (right ? 1 : -1);
            if (cell < 0 || cell >= plan.cells) {
                return NONE;
            }
            for (int other = 0; other < plan.posts; other++) {
                if (cellOf[other] == cell) {
                    return NONE;
                }
            }
            return cell;
        }

        int allSnow() {
            int sum = 0;
            for (int a = 0; a < MOST_CELLS; a++) {
                sum += snow[a];
            }
            return sum;
        }

        int openRoad(Plan plan) {
            int set = 0;
            for (int a = 0; a < plan.cells; a++) {
                if (plan.isRoad(a) && snow[a] <= plan.deepestOpen) {
                    set |= 1 << a;
                }
            }
            return set;
        }

        boolean roadIsOpen(Plan plan) {
            return openRoad(plan) == plan.road;
        }

        void melt(int t) {
            for (int a = 0; a < MOST_CELLS; a++) {
                snow[a] = Math.max(0, snow[a] - t);
            }
        }

        /** The let posts are told by the caller, since searches try others than those that are let. */
        void passHours(Plan plan, int n, int letPosts) {
            for (int k = 0; k < n; k++) {
                if (plan.winds == 0) {
                    blow(plan, CALM, 0, letPosts);
                } else {
                    int wind = hours % plan.winds;
                    blow(plan, plan.strong[wind], plan.fall[wind], letPosts);
                }
            }
        }

        void blow(Plan plan, int strong, int fall, int letPosts) {
            int wind = strong - CALM;
            if (Math.abs(wind) > plan.strongestHarmless) {
                standing &= letPosts;
            }
            // Without wind each cell keeps all that comes to it, as one with a fence does.
            int keepers = wind == 0 ? plan.allCells() : fencedCells(plan.posts);
            int blown = 0;
            for (int k = 0; k < plan.cells; k++) {
                int a = wind < 0 ? plan.cells - 1 - k : k;
                int comes = fall + blown;
                int kept = (keepers >> a & 1) != 0 ? comes : comes / 2;
                snow[a] = Math.min(MOST_SNOW, snow[a] + kept);
                blown = comes - kept;
            }
            hours++;
        }

        private int fencedCells(int posts) {
            int set = 0;
            for (int p = 0; p < posts; p++) {
                if ((standing >> p & 1) != 0) {
                    set |= 1 << cellOf[p];
                }
            }
            return set;
        }
    }

    /** The winters ahead of the latest calls that can be undone, in a ring. */
    private static final class Past {
        final Winter[] ahead;
        int count;
        private int newest;

        Past() {
            ahead = new Winter[MOST_UNDONE];
            for (int i = 0; i < MOST_UNDONE; i++) {
                ahead[i] = new Winter();
            }
        }

        void note(Winter winter) {
            newest = (newest + 1) % MOST_UNDONE;
            ahead[newest].copyFrom(winter);
            count = Math.min(MOST_UNDONE, count + 1);
        }

        void bringBack(Winter winter) {
            winter.copyFrom(ahead[newest]);
            newest = (newest + MOST_UNDONE - 1) % MOST_UNDONE;
            count--;
        }

        void forget() {
            count = 0;
        }
    }

    /** The seed, and what is drawn by it. */
    private static final class Draws {
        int seed;

        int below(int n) {
            seed = (int) ((seed * 1103515245L + 12345L) % 2147483648L);
            return n > 0 ? seed / 65536 % n : 0;
        }
    }

    private static final class Image {
        final Winter winter = new Winter();
        int seed;
        boolean kept;

        void take(Winter from, Draws draws) {
            winter.copyFrom(from);
            seed = draws.seed;
            kept = true;
        }

        void give(Winter to, Draws draws) {
            to.copyFrom(winter);
            draws.seed = seed;
        }
    }

    /** Goes through all ways to let posts: post by post the lesser crow first, nobody last. */
    private static final class Ways {
        final int[] crowOn = new int[MOST_POSTS];
        int letPosts;
        boolean ended;
        private int posts;
        private int crows;
        private int taken;

        void begin(Plan plan) {
            posts = plan.posts;
            crows = plan.crows;
            letPosts = 0;
            taken = 0;
            ended = false;
            settle(0, 0);
        }

        void advance() {
            for (int p = posts - 1; p >= 0; p--) {
                int crow = crowOn[p];
                if (crow != NONE) {
                    taken &= ~(1 << crow);
                    letPosts &= ~(1 << p);
                    settle(p, crow + 1);
                    return;
                }
            }
            ended = true;
        }

        /** Post p gets its next crow from the given one on, each behind it (let to nobody yet) the first that is left. */
        private void settle(int p, int from) {
            int least = from;
            for (int q = p; q < posts; q++) {
                crowOn[q] = leastFree(least);
                if (crowOn[q] != NONE) {
                    taken |= 1 << crowOn[q];
                    letPosts |= 1 << q;
                }
                least = 0;
            }
        }

        private int leastFree(int from) {
            for (int c = from; c < crows; c++) {
                if ((taken >> c & 1) == 0) {
                    return c;
                }
            }
            return NONE;
        }
    }

    /** Which posts should be let so that the road is open. */
    private static final class Letting {
        final int[] crowOn = new int[MOST_POSTS];
        int mostSpoons;
        // What is known of each set of posts, so that none is tried twice.
        private final int[] known = new int[SETS_OF_POSTS];
        private final Winter trial = new Winter();
        private final Ways ways = new Ways();

        /** Ways come in the order of the document, so that of like ones the first stays. */
        void findMost(Plan plan, Winter now, int n) {
            forget();
            ways.begin(plan);
            for (int k = 0; k < MOST_WAYS && !ways.ended; k++) {
                int sum = spoonsOfWay(plan, now);
                if (sum > mostSpoons && opensBy(plan, now, ways.letPosts, n)) {
                    mostSpoons = sum;
                    System.arraycopy(ways.crowOn, 0, crowOn, 0, plan.posts);
                }
                ways.advance();
            }
        }

        private void forget() {
            mostSpoons = NONE;
            for (int p = 0; p < MOST_POSTS; p++) {
                crowOn[p] = NONE;
            }
            for (int set = 0; set < SETS_OF_POSTS; set++) {
                known[set] = UNTRIED;
            }
        }

        private int spoonsOfWay(Plan plan, Winter now) {
            int sum = 0;
            for (int p = 0; p < plan.posts; p++) {
                if (ways.crowOn[p] != NONE) {
                    sum += now.worthOf(plan, p, ways.crowOn[p]);
                }
            }
            return sum;
        }

        private boolean opensBy(Plan plan, Winter now, int letPosts, int n) {
            if (known[letPosts] == UNTRIED) {
                known[letPosts] = staysOpen(plan, now, letPosts, n) ? OPENS : CLOSES;
            }
            return known[letPosts] == OPENS;
        }

        int fewestPosts(Plan plan, Winter now, int n) {
            for (int size = 0; size <= plan.posts; size++) {
                for (int set = 0; set <= plan.allPosts(); set++) {
                    if (Integer.bitCount(set) == size && staysOpen(plan, now, set, n)) {
                        return set;
                    }
                }
            }
            return NONE;
        }

        /** Snow never goes in tried hours, so that a road which is closed once stays so. */
        private boolean staysOpen(Plan plan, Winter now, int letPosts, int n) {
            trial.copyFrom(now);
            trial.standing = plan.allPosts();
            boolean isOpen = trial.roadIsOpen(plan);
            for (int k = 0; k < n && isOpen; k++) {
                trial.passHours(plan, 1, letPosts);
                isOpen = trial.roadIsOpen(plan);
            }
            return isOpen;
        }
    }

    /** Which crow was seen on which post, and what can be told by it. */
    private static final class Sits {
        int count;
        int waysThatFit;
        private final int[] crow = new int[MOST_SITS];
        private final int[] post = new int[MOST_SITS];
        private final int[] seenOn = new int[MOST_POSTS];
        // Bit 0 for nobody, bit c + 1 for crow c.
        private final int[] tenants = new int[MOST_POSTS];
        private int seenAnywhere;
        private final Ways ways = new Ways();

        void note(int c, int p) {
            crow[count] = c;
            post[count] = p;
            count++;
        }

        int subletters(Winter now) {
            gatherSeen();
            int set = 0;
            for (int p = 0; p < MOST_POSTS; p++) {
                int tenant = now.crowOn[p];
                if (tenant != NONE && seenOn[p] != 0 && (seenOn[p] >> tenant & 1) == 0) {
                    set |= 1 << tenant;
                }
            }
            return set;
        }

        int guests(Winter now) {
            int set = 0;
            for (int k = 0; k < count; k++) {
                int tenant = now.crowOn[post[k]];
                if (tenant != NONE && tenant != crow[k]) {
                    set |= 1 << crow[k];
                }
            }
            return set;
        }

        void findWays(Plan plan) {
            gatherSeen();
            waysThatFit = 0;
            for (int p = 0; p < MOST_POSTS; p++) {
                tenants[p] = 0;
            }
            ways.begin(plan);
            for (int k = 0; k < MOST_WAYS && !ways.ended; k++) {
                if (wayFits(plan.posts)) {
                    countWay(plan.posts);
                }
                ways.advance();
            }
        }

        int postToLookAt(int posts) {
            int best = NONE;
            int most = 0;
            for (int p = 0; p < posts; p++) {
                int many = Integer.bitCount(tenants[p]);
                if (many > most) {
                    most = many;
                    best = p;
                }
            }
            return best;
        }

        private void gatherSeen() {
            seenAnywhere = 0;
            for (int p = 0; p < MOST_POSTS; p++) {
                seenOn[p] = 0;
            }
            for (int k = 0; k < count; k++) {
                seenOn[post[k]] |= 1 << crow[k];
                seenAnywhere |= 1 << crow[k];
            }
        }

        private boolean wayFits(int posts) {
            for (int p = 0; p < posts; p++) {
                if (seenOn[p] != 0 && !mayHave(p, ways.crowOn[p])) {
                    return false;
                }
            }
            return true;
        }

        private boolean mayHave(int p, int c) {
            if (c == NONE) {
                return false;
            }
            return (seenOn[p] >> c & 1) != 0 || (seenAnywhere >> c & 1) == 0;
        }

        private void countWay(int posts) {
            waysThatFit++;
            for (int p = 0; p < posts; p++) {
                tenants[p] |= 1 << (ways.crowOn[p] + 1);
            }
        }
    }

    /** What was written of snow, to be judged by what lies. */
    private static final class Book {
        int count;
        private final int[] cell = new int[MOST_ENTRIES];
        private final int[] snow = new int[MOST_ENTRIES];

        void enter(int a, int depth) {
            cell[count] = a;
            snow[count] = depth;
            count++;
        }

        int firstWrong(Winter now) {
            for (int k = 0; k < count; k++) {
                if (now.snow[cell[k]] != snow[k]) {
                    return k;
                }
            }
            return NONE;
        }
    }
}
