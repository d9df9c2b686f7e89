import java.util.ArrayList;
import java.util.List;
import java.util.function.ToIntFunction;

/**
 * What must hold wherever promises meet, in each state that up to two of the 19 calls below make of two plateaus (up to
 * three, on the lesser one, for what is brought back or left as it was): what is TRIED is what comes if it is done;
 * undo(), goBack() and a plateau() with a FAULT bring or leave all as it was; a plateau() without one begins as a new
 * object does. No answer is reckoned here: one call is held against others. Each object is asked less than 512 times.
 */
public final class CrowFencesLaws {
    private static final int NONE = -1, NOT = -1000000003, LEAST_REFUSAL = -1000000004, MOST_REFUSAL = -1000000001;

    private record Land(String text, int cells, int posts, int crows) { }

    private record Step(String name, ToIntFunction<CrowFences> call) {
        int on(CrowFences x) {
            return call.applyAsInt(x);
        }
    }

    /** Fences fall by the first wind alone; as many crows as posts, so that each set of posts can be LET. */
    private static final Land PASS =
            new Land("w6 1 14;r2;r4;p1 4;p3 2;p5 0;c6 1;c2 3;c9 0;h11 12;h8 6;h9 3;", 6, 3, 3);
    /** A post on the road and one that can come beside it; each wind is stronger than B. */
    private static final Land RIDGE = new Land("w4 2 9;r0;r3;p1 3;p3 1;c4 2;c0 5;h4 7;h14 5;", 4, 2, 2);

    private static final List<Step> CHANGES = List.of(
            new Step("hour(1)", x -> x.hour(1)), new Step("hour(3)", x -> x.hour(3)),
            new Step("let(0, 0)", x -> x.let(0, 0)), new Step("let(1, 1)", x -> x.let(1, 1)),
            new Step("let(1, 0)", x -> x.let(1, 0)),
            new Step("giveUp(0)", x -> x.giveUp(0)), new Step("giveUp(1)", x -> x.giveUp(1)),
            new Step("move(0, true)", x -> x.move(0, true)), new Step("move(1, false)", x -> x.move(1, false)),
            new Step("thaw(4)", x -> x.thaw(4)), new Step("shout(0)", x -> x.shout(0)),
            new Step("shout(1)", x -> x.shout(1)), new Step("drift(2)", x -> x.drift(2)));
    private static final List<Step> OTHERS = List.of(
            new Step("undo()", CrowFences::undo), new Step("seed(20261118)", x -> x.seed(20261118)),
            new Step("see(0, 1)", x -> x.see(0, 1)), new Step("write(1, 9)", x -> x.write(1, 9)),
            new Step("keep(1)", x -> x.keep(1)), new Step("goBack(1)", x -> x.goBack(1)));

    private static int held = 0;
    private static int wrong = 0;

    public static void main(String[] args) {
        for (Land land : new Land[] {PASS, RIDGE}) {
            for (Story story : stories(land, 2)) {
                triedIsDone(story);
                broughtBack(story);
                begunAnew(story);
            }
        }
        for (Story story : stories(RIDGE, 3)) {
            broughtBack(story);
        }
        System.out.println(wrong == 0 ? held + " laws hold" : wrong + " laws do not hold");
        if (wrong != 0) {
            System.exit(1);
        }
    }

    private static void due(Story story, String what, Object got, Object want) {
        held++;
        if (!got.equals(want)) {
            wrong++;
            System.out.println(story + " " + what + ": " + got + ", due is " + want);
        }
    }

    private static boolean refused(int answer) {
        return answer >= LEAST_REFUSAL && answer <= MOST_REFUSAL;
    }

    // ---- states

    /** A plateau and the calls that came behind it; each object that it makes is in the same state. */
    private record Story(Land land, List<Step> steps) {
        CrowFences made() {
            CrowFences x = new CrowFences();
            tell(x, land.text());
            for (Step step : steps) {
                step.on(x);
            }
            return x;
        }

        Story and(Step step) {
            List<Step> longer = new ArrayList<>(steps);
            longer.add(step);
            return new Story(land, longer);
        }

        List<Integer> look() {
            return lookAt(made());
        }

        /** All that can be asked of what is so, and of what is TRIED from it; nothing changes by it. */
        List<Integer> lookAt(CrowFences x) {
            List<Integer> row = new ArrayList<>();
            for (int what = 0; what < 15; what++) {
                row.add(x.told(what));
            }
            for (int a = 0; a < land.cells(); a++) {
                row.add(x.snow(a));
                row.add(x.lies(a, 2));
                row.add(x.out(a, 3));
                for (int p = 0; p < land.posts(); p++) {
                    row.add(x.yard(p, a, 2));
                }
            }
            for (int p = 0; p < land.posts(); p++) {
                row.add(x.lets(1, p));
                for (int what = 0; what < 4; what++) {
                    row.add(x.post(p, what));
                }
                for (int c = 0; c < land.crows(); c++) {
                    row.add(x.worth(p, c));
                }
            }
            for (int c = 0; c < land.crows(); c++) {
                for (int what = 0; what < 4; what++) {
                    row.add(x.crow(c, what));
                }
            }
            for (int n = 1; n < 4; n++) {
                row.add(x.open(n));
                row.add(x.lets(n, NONE));
                row.add(x.fewest(n));
            }
            for (int what = 0; what < 2; what++) {
                row.add(x.sublets(what));
                row.add(x.fit(what));
            }
            row.add(x.judge());
            return row;
        }

        @Override
        public String toString() {
            StringBuilder row = new StringBuilder(land.text());
            for (Step step : steps) {
                row.append(' ').append(step.name());
            }
            return row.toString();
        }
    }

    private static void tell(CrowFences x, String text) {
        for (int i = 0; i < text.length(); i++) {
            x.feed(text.charAt(i));
        }
        x.plateau();
    }

    private static List<Story> stories(Land land, int most) {
        List<Story> all = new ArrayList<>();
        all.add(new Story(land, List.of()));
        int from = 0;
        for (int length = 1; length <= most; length++) {
            int to = all.size();
            for (int k = from; k < to; k++) {
                for (Step step : CHANGES) {
                    all.add(all.get(k).and(step));
                }
                for (Step step : OTHERS) {
                    all.add(all.get(k).and(step));
                }
            }
            from = to;
        }
        return all;
    }

    // ---- what is TRIED is what comes if it is done

    private static void triedIsDone(Story story) {
        for (int n : new int[] {1, 2, 7, 40}) {
            liesAndOpen(story, n);
        }
        for (int n = 1; n < 4; n++) {
            letsAreDone(story, n);
            fewestAreDone(story, n);
        }
        for (int p = 0; p < story.land().posts(); p++) {
            yardIsDone(story, p, 1);
            yardIsDone(story, p, 5);
            for (int c = 0; c < story.land().crows(); c++) {
                worthIsPaid(story, p, c);
            }
        }
        for (int a = 0; a < story.land().cells(); a++) {
            outIsDone(story, a, 3);
            outIsDone(story, a, 99);
        }
    }

    private static boolean roadIsOpen(CrowFences x) {
        return x.told(7) == x.told(8);
    }

    private static List<Integer> snow(CrowFences x, Land land) {
        List<Integer> row = new ArrayList<>();
        for (int a = 0; a < land.cells(); a++) {
            row.add(x.snow(a));
        }
        return row;
    }

    private static List<Integer> lies(CrowFences x, Land land, int n) {
        List<Integer> row = new ArrayList<>();
        for (int a = 0; a < land.cells(); a++) {
            row.add(x.lies(a, n));
        }
        return row;
    }

    private static void liesAndOpen(Story story, int n) {
        CrowFences x = story.made();
        List<Integer> tried = lies(x, story.land(), n);
        int open = x.open(n);
        due(story, "lies(a, 0)", lies(x, story.land(), 0), snow(x, story.land()));
        due(story, "open(0)", x.open(0), roadIsOpen(x) ? 1 : 0);
        x.hour(n);
        due(story, "lies(a, " + n + ")", tried, snow(x, story.land()));
        due(story, "open(" + n + ")", open, roadIsOpen(x) ? 1 : 0);
    }

    private static void yardIsDone(Story story, int p, int n) {
        CrowFences x = story.made();
        int cells = story.land().cells();
        List<Integer> unmoved = lies(x, story.land(), n);
        List<Integer> tried = new ArrayList<>();
        for (int a = 0; a < cells; a++) {
            tried.add(x.yard(p, a, n));
        }
        boolean moved = x.move(p, true) != NOT;
        x.hour(n);
        List<Integer> done = new ArrayList<>();
        for (int a = 0; a < cells; a++) {
            done.add(moved ? x.snow(a) - unmoved.get(a) + 10000 : NONE);
        }
        due(story, "yard(" + p + ", a, " + n + ")", tried, done);
    }

    private static void worthIsPaid(Story story, int p, int c) {
        CrowFences x = story.made();
        int worth = x.worth(p, c);
        x.giveUp(p);
        if (x.crow(c, 2) != NONE) {
            x.giveUp(x.crow(c, 2));
        }
        int all = x.told(6);
        int own = x.crow(c, 3);
        String call = "worth(" + p + ", " + c + ")";
        due(story, call, worth, x.let(p, c));
        due(story, call + ", SPOONS PAID", x.told(6) - all, worth);
        due(story, call + ", PAID by it", x.crow(c, 3) - own, worth);
    }

    private static void outIsDone(Story story, int a, int t) {
        CrowFences x = story.made();
        int hours = x.out(a, t);
        int thaws = 0;
        while (x.snow(a) > 0 && thaws < 150) {
            x.thaw(t);
            thaws++;
        }
        due(story, "out(" + a + ", " + t + ")", hours, thaws);
    }

    /** Nothing is LET and all fences STAND: one who gets a post and gives it up leaves the fence standing. */
    private static CrowFences allAnew(Story story) {
        CrowFences x = story.made();
        int posts = story.land().posts();
        for (int p = 0; p < posts; p++) {
            x.giveUp(p);
        }
        for (int p = 0; p < posts; p++) {
            x.let(p, 0);
            x.giveUp(p);
        }
        return x;
    }

    /** All ways to let the posts from p on, in the order of the document. */
    private static void addWays(Land land, int[] way, int p, List<int[]> ways) {
        if (p == land.posts()) {
            ways.add(way.clone());
            return;
        }
        for (int c = 0; c <= land.crows(); c++) {
            way[p] = c == land.crows() ? NONE : c;
            boolean unlike = true;
            for (int q = 0; q < p; q++) {
                unlike &= way[p] == NONE || way[q] != way[p];
            }
            if (unlike) {
                addWays(land, way, p + 1, ways);
            }
        }
    }

    private static void letsAreDone(Story story, int n) {
        List<int[]> ways = new ArrayList<>();
        addWays(story.land(), new int[story.land().posts()], 0, ways);
        List<Integer> best = new ArrayList<>(List.of(NONE));
        for (int p = 0; p < story.land().posts(); p++) {
            best.add(NONE);
        }
        for (int[] way : ways) {
            CrowFences x = allAnew(story);
            int spoons = 0;
            for (int p = 0; p < way.length; p++) {
                spoons += way[p] == NONE ? 0 : x.let(p, way[p]);
            }
            x.hour(n);
            if (roadIsOpen(x) && spoons > best.get(0)) {
                best.set(0, spoons);
                for (int p = 0; p < way.length; p++) {
                    best.set(p + 1, way[p]);
                }
            }
        }
        CrowFences x = story.made();
        List<Integer> tried = new ArrayList<>();
        for (int p = NONE; p < story.land().posts(); p++) {
            tried.add(x.lets(n, p));
        }
        due(story, "lets(" + n + ", p)", tried, best);
    }

    private static void fewestAreDone(Story story, int n) {
        int posts = story.land().posts();
        int best = NONE;
        for (int set = 0; set < 1 << posts; set++) {
            CrowFences x = allAnew(story);
            for (int p = 0; p < posts; p++) {
                if ((set >> p & 1) != 0) {
                    x.let(p, posts - 1 - p);
                }
            }
            x.hour(n);
            if (roadIsOpen(x) && (best == NONE || Integer.bitCount(set) < Integer.bitCount(best))) {
                best = set;
            }
        }
        due(story, "fewest(" + n + ")", story.made().fewest(n), best);
    }

    // ---- all is as it was

    private static void broughtBack(Story story) {
        List<Integer> ahead = story.look();
        CrowFences x = story.made();
        story.lookAt(x);
        due(story, "nothing changes by what is asked and TRIED", story.lookAt(x), ahead);
        for (Step change : CHANGES) {
            undone(story, change, ahead);
        }
        goneBack(story);
        faultLeavesAll(story, ahead);
    }

    private static void undone(Story story, Step change, List<Integer> ahead) {
        CrowFences x = story.made();
        if (refused(change.on(x))) {
            due(story, change.name() + " is refused", story.lookAt(x), ahead);
            return;
        }
        int seed = x.seed(0);
        x.seed(seed);
        due(story, change.name() + " undone: how many more", x.undo(), story.made().told(14));
        due(story, change.name() + " undone", story.lookAt(x), ahead);
        due(story, change.name() + " undone: THE SEED", x.seed(0), seed);
    }

    private static void goneBack(Story story) {
        for (int i = 0; i < 2; i++) {
            CrowFences x = story.made();
            x.keep(i);
            List<Integer> kept = story.lookAt(x);
            int seed = x.seed(4711);
            x.seed(seed);
            x = story.made();
            x.keep(i);
            for (Step change : CHANGES) {
                change.on(x);
            }
            x.seed(77);
            x.keep(1 - i);
            x.hour(2);
            due(story, "goBack(" + i + ")", x.goBack(i), 1);
            due(story, "what is so behind goBack(" + i + ")", story.lookAt(x), kept);
            due(story, "THE SEED behind goBack(" + i + ")", x.seed(0), seed);
        }
    }

    private static void faultLeavesAll(Story story, List<Integer> ahead) {
        CrowFences x = story.made();
        tell(x, "w3 0 0;r0;p2 9;c9 9;h0 30;r0;");
        due(story, "plateau() with a FAULT", x.fault(), 27);
        due(story, "what is so behind it", story.lookAt(x), ahead);
        CrowFences twin = story.made();
        due(story, "THE SEED behind it", x.seed(8), twin.seed(8));
        due(story, "goBack(1) behind it", x.goBack(1), twin.goBack(1));
        due(story, "THE SEED behind goBack(1)", x.seed(9), twin.seed(9));
        x = story.made();
        tell(x, "w3 0 0;r0;p2 9;c9 9;h0 30;r3;");
        due(story, "undo() behind it", x.undo(), story.made().undo());
        due(story, "what is so behind undo()", story.lookAt(x), story.and(OTHERS.get(0)).look());
    }

    // ---- a plateau() without a FAULT

    /** From then on it is as a new object with that SEED, whatever was ahead of it. */
    private static void begunAnew(Story story) {
        for (Land next : new Land[] {story.land(), PASS, RIDGE}) {
            Story begun = new Story(next, List.of());
            CrowFences x = story.made();
            CrowFences twin = new CrowFences();
            int seed = x.seed(3);
            x.seed(seed);
            twin.seed(seed);
            tell(x, next.text());
            tell(twin, next.text());
            due(story, "begun anew: goBack(1)", x.goBack(1), NOT);
            due(story, "begun anew: undo()", x.undo(), NOT);
            due(story, "begun anew: what is so", begun.lookAt(x), begun.lookAt(twin));
            for (Step step : CHANGES) {
                due(story, "begun anew: " + step.name(), step.on(x), step.on(twin));
            }
            due(story, "begun anew: what is so then", begun.lookAt(x), begun.lookAt(twin));
        }
    }
}
