import java.util.ArrayList;
import java.util.List;
import java.util.function.Consumer;
import java.util.function.ToIntFunction;

/**
 * Each refused call with the number that it answers, the order of the refusals where several hold, and that nothing
 * has changed by it: a twin object that was never asked answers all that can be asked in the same way from then on.
 */
public final class CrowFencesRefusals {
    private static final int NONE = -1, UNKNOWN = -1000000001, OUTSIDE = -1000000002, NOT = -1000000003, FULL = -1000000004;
    private static final int MIN = Integer.MIN_VALUE, MAX = Integer.MAX_VALUE;

    /** Four cells, two posts, two crows, three winds. */
    private static final String SMALL = "w4 2 9;r1;r3;p0 3;p2 5;c7 2;c0 1;h12 8;h9 5;h6 4;";
    private static final int CELLS = 4, POSTS = 2, CROWS = 2;
    private static final int[] NO_SUCH_IMAGE = {MIN, -1, 2, MAX};

    private static final State NEW = new State("a new object", 0, 0, 0, x -> { });
    private static final State NO_PLATEAU =
            new State("without a plateau", 0, 0, 0, CrowFencesRefusals::withoutPlateau);
    private static final State BEGUN = new State("behind plateau()", CELLS, POSTS, CROWS, x -> tell(x, SMALL));
    private static final State WINTER = new State("a winter", CELLS, POSTS, CROWS, CrowFencesRefusals::winter);
    private static final State ALL_FULL = new State("all is full", CELLS, POSTS, CROWS, CrowFencesRefusals::allFull);
    private static final State LATE = new State("above 9000 hours", CELLS, POSTS, CROWS, CrowFencesRefusals::late);
    private static final State[] STATES = {NEW, NO_PLATEAU, BEGUN, WINTER, ALL_FULL, LATE};

    private static int asked = 0;
    private static int wrong = 0;

    public static void main(String[] args) {
        theNumbers();
        for (State state : STATES) {
            nothingChangesByAsking(state);
            state.unknownRefused();
            state.outsideRefused();
        }
        notWithoutPlateau();
        notUndone();
        notLet();
        notGivenUp();
        notMoved();
        notKept();
        fullOfHours();
        fullText();
        fullOfSitsAndEntries();
        nothingChangesByAFault();
        System.out.println(wrong == 0 ? asked + " calls are refused as due" : wrong + " answers are not as due");
        if (wrong != 0) {
            System.exit(1);
        }
    }

    private static void theNumbers() {
        due("NONE", CrowFences.NONE, -1);
        due("UNKNOWN", CrowFences.UNKNOWN, -1000000001);
        due("OUTSIDE", CrowFences.OUTSIDE, -1000000002);
        due("NOT", CrowFences.NOT, -1000000003);
        due("FULL", CrowFences.FULL, -1000000004);
    }

    private static void due(String what, int got, int want) {
        asked++;
        if (got != want) {
            wrong++;
            System.out.println(what + " answered " + got + ", due is " + want);
        }
    }

    // ---- the states in which calls are refused

    private static void feedAll(CrowFences x, String text) {
        for (int i = 0; i < text.length(); i++) {
            x.feed(text.charAt(i));
        }
    }

    private static void tell(CrowFences x, String text) {
        feedAll(x, text);
        x.plateau();
    }

    /** A fault, a seed, an image and a full text are all that there can be. */
    private static void withoutPlateau(CrowFences x) {
        tell(x, "w3 x");
        x.seed(123456789);
        x.keep(1);
        x.seed(99);
        feedAll(x, "w7");
        for (int k = 2; k < 240; k++) {
            x.feed('w');
        }
    }

    /** Post 0 is let to crow 1, post 1 to crow 0 and at the right end; image 0 is kept; seven can be undone. */
    private static void winter(CrowFences x) {
        winterWithoutText(x);
        feedAll(x, "w2 0 7;r9;");
    }

    private static void winterWithoutText(CrowFences x) {
        tell(x, SMALL);
        x.seed(20261118);
        x.let(1, 0);
        x.drift(2);
        x.keep(0);
        x.move(1, true);
        x.shout(0);
        x.thaw(2);
        x.giveUp(1);
        x.let(0, 1);
        x.let(1, 0);
        x.hour(3);
        x.see(0, 0);
        x.see(1, 1);
        x.write(0, 3);
        x.write(2, 5);
    }

    /** Post 1 stands right of post 0, which is let to crow 1; image 1 is kept; 23 were done. */
    private static void allFull(CrowFences x) {
        tell(x, SMALL);
        x.keep(1);
        x.let(0, 1);
        x.move(1, false);
        for (int k = 0; k < 21; k++) {
            x.hour(1);
        }
        for (int k = 0; k < 6; k++) {
            x.see(k % 2, k / 3);
        }
        for (int k = 0; k < 15; k++) {
            x.write(k % CELLS, 9 * k);
        }
        feedAll(x, "w9 9 9;");
        for (int k = 7; k < 240; k++) {
            x.feed(' ');
        }
    }

    private static void late(CrowFences x) {
        tell(x, SMALL);
        x.let(0, 0);
        for (int k = 0; k < 150; k++) {
            x.hour(60);
        }
        x.giveUp(0);
        x.drift(1);
    }

    // ---- what shows that nothing has changed

    /** What is so, and all that can be undone. An object answers 512 calls, so that the rest is asked of another one. */
    private static List<Integer> traceBack(CrowFences x) {
        List<Integer> row = new ArrayList<>();
        look(x, row);
        for (int k = 0; k < 21; k++) {
            row.add(x.undo());
            row.add(x.told(9));
            row.add(x.told(11));
            row.add(x.told(5));
        }
        look(x, row);
        return row;
    }

    /** The fault (first), the seed, the images, the text. */
    private static List<Integer> traceOn(CrowFences x) {
        List<Integer> row = new ArrayList<>();
        row.add(x.fault());
        row.add(x.seed(7));
        for (int i = 0; i < 2; i++) {
            row.add(x.goBack(i));
            look(x, row);
            row.add(x.seed(i));
        }
        row.add(x.plateau());
        look(x, row);
        return row;
    }

    private static void look(CrowFences x, List<Integer> row) {
        for (int what = 0; what < 15; what++) {
            row.add(x.told(what));
        }
        for (int a = 0; a < CELLS; a++) {
            row.add(x.snow(a));
        }
        for (int k = 0; k < 2; k++) {
            row.add(x.post(k, 0));
            row.add(x.post(k, 2));
            row.add(x.crow(k, 0));
            row.add(x.crow(k, 3));
        }
        row.add(x.lies(2, 1));
        row.add(x.judge());
        row.add(x.sublets(0));
        row.add(x.sublets(1));
        row.add(x.fit(0));
    }

    private static final class State {
        final String name;
        final int cells;
        final int posts;
        final int crows;
        final Consumer<CrowFences> ahead;
        final List<Integer> unaskedBack;
        final List<Integer> unaskedOn;

        State(String name, int cells, int posts, int crows, Consumer<CrowFences> ahead) {
            this.name = name;
            this.cells = cells;
            this.posts = posts;
            this.crows = crows;
            this.ahead = ahead;
            unaskedBack = traceBack(made());
            unaskedOn = traceOn(made());
        }

        CrowFences made() {
            CrowFences x = new CrowFences();
            ahead.accept(x);
            return x;
        }

        void refuses(String call, int want, ToIntFunction<CrowFences> refused) {
            CrowFences x = made();
            due(name + ": " + call, refused.applyAsInt(x), want);
            dueSame(call, traceBack(x), unaskedBack);
            x = made();
            refused.applyAsInt(x);
            dueSame(call, traceOn(x), unaskedOn);
        }

        private void dueSame(String call, List<Integer> got, List<Integer> want) {
            for (int k = 0; k < want.size(); k++) {
                if (!got.get(k).equals(want.get(k))) {
                    due(name + ": answer " + k + " behind " + call, got.get(k), want.get(k));
                    return;
                }
            }
        }

        void changesNothing(String call, Consumer<CrowFences> asks) {
            CrowFences x = made();
            asks.accept(x);
            dueSame(call, traceBack(x), unaskedBack);
            x = made();
            asks.accept(x);
            dueSame(call, traceOn(x), unaskedOn);
        }

        // ---- UNKNOWN, ahead of all others

        private static int[] notOf(int many) {
            return new int[] {MIN, -2, -1, many, many + 1, MAX};
        }

        void unknownRefused() {
            for (int a : notOf(cells)) {
                refuses("snow(" + a + ")", UNKNOWN, x -> x.snow(a));
                for (int n : new int[] {0, 40, 41, -1}) {
                    refuses("lies(" + a + ", " + n + ")", UNKNOWN, x -> x.lies(a, n));
                    refuses("yard(0, " + a + ", " + n + ")", UNKNOWN, x -> x.yard(0, a, n));
                }
                for (int t : new int[] {1, 99, 0, 100}) {
                    refuses("out(" + a + ", " + t + ")", UNKNOWN, x -> x.out(a, t));
                }
                for (int snow : new int[] {0, 9999, -1, 10000}) {
                    refuses("write(" + a + ", " + snow + ")", UNKNOWN, x -> x.write(a, snow));
                }
            }
            for (int p : notOf(posts)) {
                unknownPost(p);
            }
            for (int c : notOf(crows)) {
                unknownCrow(c);
            }
            for (int i : NO_SUCH_IMAGE) {
                refuses("keep(" + i + ")", UNKNOWN, x -> x.keep(i));
                refuses("goBack(" + i + ")", UNKNOWN, x -> x.goBack(i));
            }
        }

        private void unknownPost(int p) {
            for (int what : new int[] {0, 3, 4, -1}) {
                refuses("post(" + p + ", " + what + ")", UNKNOWN, x -> x.post(p, what));
            }
            for (int c : new int[] {-1, 0, 1, 2}) {
                refuses("let(" + p + ", " + c + ")", UNKNOWN, x -> x.let(p, c));
                refuses("worth(" + p + ", " + c + ")", UNKNOWN, x -> x.worth(p, c));
                refuses("see(" + c + ", " + p + ")", UNKNOWN, x -> x.see(c, p));
            }
            refuses("giveUp(" + p + ")", UNKNOWN, x -> x.giveUp(p));
            refuses("move(" + p + ", true)", UNKNOWN, x -> x.move(p, true));
            refuses("move(" + p + ", false)", UNKNOWN, x -> x.move(p, false));
            for (int n : new int[] {0, 1, 40, 41, -1}) {
                refuses("yard(" + p + ", 0, " + n + ")", UNKNOWN, x -> x.yard(p, 0, n));
                // lets() takes NONE for a post: how many spoons.
                if (p != NONE) {
                    refuses("lets(" + n + ", " + p + ")", UNKNOWN, x -> x.lets(n, p));
                }
            }
        }

        private void unknownCrow(int c) {
            for (int what : new int[] {0, 3, 4, -1}) {
                refuses("crow(" + c + ", " + what + ")", UNKNOWN, x -> x.crow(c, what));
            }
            for (int p : new int[] {-1, 0, 1, 2}) {
                refuses("let(" + p + ", " + c + ")", UNKNOWN, x -> x.let(p, c));
                refuses("worth(" + p + ", " + c + ")", UNKNOWN, x -> x.worth(p, c));
                refuses("see(" + c + ", " + p + ")", UNKNOWN, x -> x.see(c, p));
            }
            refuses("shout(" + c + ")", UNKNOWN, x -> x.shout(c));
        }

        // ---- OUTSIDE, ahead of NOT and FULL

        private static int[] notWithin(int least, int most) {
            return new int[] {MIN, least - 1, most + 1, MAX};
        }

        void outsideRefused() {
            for (int letter : notWithin(0, 255)) {
                refuses("feed(" + letter + ")", OUTSIDE, x -> x.feed(letter));
            }
            for (int what : notWithin(0, 14)) {
                refuses("told(" + what + ")", OUTSIDE, x -> x.told(what));
            }
            for (int n : notWithin(1, 60)) {
                refuses("hour(" + n + ")", OUTSIDE, x -> x.hour(n));
                refuses("drift(" + n + ")", OUTSIDE, x -> x.drift(n));
            }
            for (int t : notWithin(1, 99)) {
                refuses("thaw(" + t + ")", OUTSIDE, x -> x.thaw(t));
            }
            for (int n : notWithin(0, 40)) {
                refuses("open(" + n + ")", OUTSIDE, x -> x.open(n));
            }
            for (int n : notWithin(1, 40)) {
                refuses("lets(" + n + ", NONE)", OUTSIDE, x -> x.lets(n, NONE));
                refuses("fewest(" + n + ")", OUTSIDE, x -> x.fewest(n));
            }
            for (int n : notWithin(0, 60)) {
                refuses("still(" + n + ", 50)", OUTSIDE, x -> x.still(n, 50));
                refuses("still(" + n + ", 101)", OUTSIDE, x -> x.still(n, 101));
            }
            for (int q : notWithin(0, 100)) {
                refuses("still(30, " + q + ")", OUTSIDE, x -> x.still(30, q));
                refuses("still(0, " + q + ")", OUTSIDE, x -> x.still(0, q));
            }
            for (int what : notWithin(0, 1)) {
                refuses("sublets(" + what + ")", OUTSIDE, x -> x.sublets(what));
                refuses("fit(" + what + ")", OUTSIDE, x -> x.fit(what));
            }
            for (int v : new int[] {MIN, MIN + 1, -2, -1}) {
                refuses("seed(" + v + ")", OUTSIDE, x -> x.seed(v));
            }
            if (cells > 0) {
                outsideOfThings();
            }
        }

        private void outsideOfThings() {
            for (int k = 0; k < 2; k++) {
                int each = k;
                for (int what : notWithin(0, 3)) {
                    refuses("post(" + k + ", " + what + ")", OUTSIDE, x -> x.post(each, what));
                    refuses("crow(" + k + ", " + what + ")", OUTSIDE, x -> x.crow(each, what));
                }
                for (int n : notWithin(1, 40)) {
                    refuses("lets(" + n + ", " + k + ")", OUTSIDE, x -> x.lets(n, each));
                }
                for (int n : notWithin(0, 40)) {
                    refuses("yard(" + k + ", 0, " + n + ")", OUTSIDE, x -> x.yard(each, 0, n));
                }
            }
            for (int a = 0; a < CELLS; a++) {
                int each = a;
                for (int n : notWithin(0, 40)) {
                    refuses("lies(" + a + ", " + n + ")", OUTSIDE, x -> x.lies(each, n));
                }
                for (int t : notWithin(1, 99)) {
                    refuses("out(" + a + ", " + t + ")", OUTSIDE, x -> x.out(each, t));
                }
                for (int snow : notWithin(0, 9999)) {
                    refuses("write(" + a + ", " + snow + ")", OUTSIDE, x -> x.write(each, snow));
                }
            }
        }
    }

    // ---- NOT and FULL

    private static void notWithoutPlateau() {
        for (State state : new State[] {NEW, NO_PLATEAU}) {
            for (int n : new int[] {1, 60}) {
                state.refuses("hour(" + n + ")", NOT, x -> x.hour(n));
                state.refuses("drift(" + n + ")", NOT, x -> x.drift(n));
            }
            state.refuses("thaw(1)", NOT, x -> x.thaw(1));
            state.refuses("thaw(99)", NOT, x -> x.thaw(99));
        }
    }

    private static void notUndone() {
        for (State state : new State[] {NEW, NO_PLATEAU, BEGUN}) {
            state.refuses("undo()", NOT, x -> x.undo());
        }
    }

    private static void notLet() {
        for (int p = 0; p < POSTS; p++) {
            for (int c = 0; c < CROWS; c++) {
                int post = p;
                int crow = c;
                WINTER.refuses("let(" + p + ", " + c + "), both have one", NOT, x -> x.let(post, crow));
            }
        }
        ALL_FULL.refuses("let(0, 0): it is let", NOT, x -> x.let(0, 0));
        ALL_FULL.refuses("let(1, 1): the crow has one", NOT, x -> x.let(1, 1));
        ALL_FULL.refuses("let(0, 1): to this one already", NOT, x -> x.let(0, 1));
    }

    private static void notGivenUp() {
        BEGUN.refuses("giveUp(0)", NOT, x -> x.giveUp(0));
        BEGUN.refuses("giveUp(1)", NOT, x -> x.giveUp(1));
        ALL_FULL.refuses("giveUp(1)", NOT, x -> x.giveUp(1));
        LATE.refuses("giveUp(0): given up already", NOT, x -> x.giveUp(0));
    }

    private static void notMoved() {
        WINTER.refuses("move(0, false): no cell there", NOT, x -> x.move(0, false));
        WINTER.refuses("move(1, true): no cell there", NOT, x -> x.move(1, true));
        ALL_FULL.refuses("move(0, true): a post is there", NOT, x -> x.move(0, true));
        ALL_FULL.refuses("move(1, false): a post is there", NOT, x -> x.move(1, false));
    }

    private static void notKept() {
        NEW.refuses("goBack(0)", NOT, x -> x.goBack(0));
        NEW.refuses("goBack(1)", NOT, x -> x.goBack(1));
        NO_PLATEAU.refuses("goBack(0)", NOT, x -> x.goBack(0));
        WINTER.refuses("goBack(1)", NOT, x -> x.goBack(1));
        ALL_FULL.refuses("goBack(0)", NOT, x -> x.goBack(0));
    }

    private static void fullOfHours() {
        due("told(5)", LATE.made().told(5), 9001);
        for (int n : new int[] {1, 60}) {
            LATE.refuses("hour(" + n + ")", FULL, x -> x.hour(n));
            LATE.refuses("drift(" + n + ")", FULL, x -> x.drift(n));
        }
    }

    private static void fullText() {
        for (State state : new State[] {NO_PLATEAU, ALL_FULL}) {
            due("told(4)", state.made().told(4), 240);
            for (int letter : new int[] {0, ' ', ';', 'w', 255}) {
                state.refuses("feed(" + letter + ")", FULL, x -> x.feed(letter));
            }
        }
    }

    private static void fullOfSitsAndEntries() {
        due("told(12)", ALL_FULL.made().told(12), 6);
        due("told(13)", ALL_FULL.made().told(13), 15);
        due("told(14)", ALL_FULL.made().told(14), 20);
        for (int k = 0; k < 2; k++) {
            int each = k;
            ALL_FULL.refuses("see(" + k + ", " + k + ")", FULL, x -> x.see(each, each));
        }
        ALL_FULL.refuses("write(0, 0)", FULL, x -> x.write(0, 0));
        ALL_FULL.refuses("write(3, 9999)", FULL, x -> x.write(3, 9999));
    }

    /** plateau() with a fault: but for the text and fault() all else is as it was. */
    private static void nothingChangesByAFault() {
        State state = new State("a winter without a text", CELLS, POSTS, CROWS, CrowFencesRefusals::winterWithoutText);
        String[] texts = {"x", "w", "w1 0 0", "w13 0 0;", "w1 0 0;w", "w9 9 99;p8 9;r8;r8;", "w12 0 0;r0;p1 1;c1 1;h1 1;!"};
        for (String text : texts) {
            CrowFences x = state.made();
            tell(x, text);
            due("fault() of " + text, x.fault() >= 0 ? 1 : 0, 1);
            state.dueSame(text, traceBack(x), state.unaskedBack);
            x = state.made();
            tell(x, text);
            List<Integer> on = traceOn(x);
            state.dueSame(text, on.subList(1, on.size()), state.unaskedOn.subList(1, on.size()));
        }
    }

    /** "TRIED from now; nothing changes by it", and what only asks. */
    private static void nothingChangesByAsking(State state) {
        state.changesNothing("what is tried", CrowFencesRefusals::tryAll);
        state.changesNothing("what is asked", CrowFencesRefusals::askAll);
    }

    private static void tryAll(CrowFences x) {
        for (int k = 0; k < 2; k++) {
            x.lies(k, 40);
            x.worth(k, 1 - k);
            x.lets(40, k);
            x.yard(k, k, 40);
            x.out(k, 1);
        }
        x.open(40);
        x.lets(1, NONE);
        x.fewest(40);
        x.still(60, 1);
    }

    private static void askAll(CrowFences x) {
        x.judge();
        x.fit(1);
        x.sublets(0);
        x.sublets(1);
        x.fault();
        x.told(8);
        x.snow(1);
        x.post(1, 3);
        x.crow(1, 2);
    }
}
