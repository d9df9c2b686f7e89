import java.util.ArrayDeque;
import java.util.ArrayList;
import java.util.Arrays;
import java.util.Collections;
import java.util.Deque;
import java.util.HashMap;
import java.util.HashSet;
import java.util.List;
import java.util.Map;
import java.util.Random;
import java.util.Set;
import java.util.TreeSet;

/**
 * Runs of drawn calls (always the same ones), each answer compared with that of a model which is written anew
 * from the document, with lists, maps and no care for speed.
 */
public final class CrowFencesAgainstModel {
    private static final int NONE = -1, UNKNOWN = -1000000001, OUTSIDE = -1000000002, NOT = -1000000003, FULL = -1000000004;
    private static final int RUNS = 3000;
    private static final int CALLS = 512;

    public static void main(String[] args) {
        int wrong = 0;
        for (int run = 0; run < RUNS; run++) {
            if (!new Run(run).agrees()) {
                wrong++;
            }
        }
        System.out.println(wrong == 0 ? RUNS + " runs are as due" : wrong + " runs are not as due");
        if (wrong != 0) {
            System.exit(1);
        }
    }

    /** A clause's word with the bounds of its numbers; a cell is told by -1 as the upper bound. */
    private record Clause(char word, int most, int[][] bounds) { }

    private static final List<Clause> CLAUSES = List.of(
            new Clause('w', 1, new int[][] {{1, 12}, {0, 9}, {0, 99}}),
            new Clause('r', 12, new int[][] {{0, -1}}),
            new Clause('p', 6, new int[][] {{0, -1}, {0, 9}}),
            new Clause('c', 5, new int[][] {{0, 99}, {0, 9}}),
            new Clause('h', 10, new int[][] {{0, 18}, {0, 30}}));

    private record Token(int place, String letters) {
        boolean isNumber() {
            return !letters.isEmpty() && Character.isDigit(letters.charAt(0)) && letters.charAt(0) < 128;
        }
    }

    private record Fault(int kind, int place) { }

    /** What a text tells: rows of numbers by word. */
    private static final class Told {
        final Map<Character, List<int[]>> rows = new HashMap<>();
        Fault fault;

        Told(String text) {
            for (Clause clause : CLAUSES) {
                rows.put(clause.word(), new ArrayList<>());
            }
            fault = read(tokens(text));
        }

        private static Deque<Token> tokens(String text) {
            Deque<Token> tokens = new ArrayDeque<>();
            int i = 0;
            while (i < text.length()) {
                int j = i;
                while (j < text.length() && text.charAt(j) >= '0' && text.charAt(j) <= '9') {
                    j++;
                }
                if (j == i) {
                    j++;
                }
                if (text.charAt(i) != ' ') {
                    tokens.add(new Token(i, text.substring(i, j)));
                }
                i = j;
            }
            tokens.add(new Token(text.length(), ""));
            return tokens;
        }

        private Fault read(Deque<Token> tokens) {
            while (tokens.size() > 1) {
                Token word = tokens.remove();
                Clause clause = null;
                for (Clause each : CLAUSES) {
                    if (word.letters().equals(String.valueOf(each.word()))) {
                        clause = each;
                    }
                }
                if (clause == null || (clause.word() != 'w' && rows.get('w').isEmpty())) {
                    return new Fault(1, word.place());
                }
                List<int[]> before = rows.get(clause.word());
                if (before.size() == clause.most() && clause.word() != 'r') {
                    return new Fault(3, word.place());
                }
                int[] row = new int[clause.bounds().length];
                for (int k = 0; k < row.length; k++) {
                    Token number = tokens.remove();
                    if (!number.isNumber()) {
                        return new Fault(1, number.place());
                    }
                    int most = clause.bounds()[k][1] < 0 ? rows.get('w').get(0)[0] - 1 : clause.bounds()[k][1];
                    if (number.letters().length() > 3 || Integer.parseInt(number.letters()) > most
                            || Integer.parseInt(number.letters()) < clause.bounds()[k][0]) {
                        return new Fault(2, number.place());
                    }
                    row[k] = Integer.parseInt(number.letters());
                    if (clause.bounds()[k][1] < 0 && before.stream().anyMatch(r -> r[0] == row[0])) {
                        return new Fault(4, number.place());
                    }
                }
                Token end = tokens.remove();
                if (!end.letters().equals(";")) {
                    return new Fault(1, end.place());
                }
                before.add(row);
            }
            return null;
        }
    }

    /** All of section 2. */
    private static final class Scene {
        List<Integer> snow = new ArrayList<>();
        List<Integer> cellOfPost = new ArrayList<>();
        Map<Integer, Integer> crowOfPost = new HashMap<>();
        Set<Integer> down = new HashSet<>();
        List<Integer> bids = new ArrayList<>();
        List<Integer> paid = new ArrayList<>();
        int hours;

        Scene copy() {
            Scene other = new Scene();
            other.snow.addAll(snow);
            other.cellOfPost.addAll(cellOfPost);
            other.crowOfPost.putAll(crowOfPost);
            other.down.addAll(down);
            other.bids.addAll(bids);
            other.paid.addAll(paid);
            other.hours = hours;
            return other;
        }

        int all() {
            return snow.stream().mapToInt(Integer::intValue).sum();
        }

        void blow(int b, int s, int i) {
            int wind = s - 9;
            if (wind > b || -wind > b) {
                for (int p = 0; p < cellOfPost.size(); p++) {
                    if (!crowOfPost.containsKey(p)) {
                        down.add(p);
                    }
                }
            }
            int comes = 0;
            int a = wind < 0 ? snow.size() - 1 : 0;
            for (int k = 0; k < snow.size(); k++) {
                comes += i;
                int post = cellOfPost.indexOf(a);
                int keeps = wind == 0 ? i : post >= 0 && !down.contains(post) ? comes : comes / 2;
                snow.set(a, Math.min(9999, snow.get(a) + keeps));
                comes -= keeps;
                a += wind < 0 ? -1 : 1;
            }
            hours++;
        }
    }

    private record Image(Scene scene, long seed) { }

    private static final class Model {
        String text = "";
        Told plan = new Told("");
        int faultPlace = NONE;
        Scene now = new Scene();
        long seed;
        final List<Scene> past = new ArrayList<>();
        final Image[] images = new Image[2];
        final List<int[]> sits = new ArrayList<>();
        final List<int[]> book = new ArrayList<>();

        int cells() {
            return now.snow.size();
        }

        int posts() {
            return now.cellOfPost.size();
        }

        int crows() {
            return now.bids.size();
        }

        boolean cell(int a) {
            return a >= 0 && a < cells();
        }

        boolean postIs(int p) {
            return p >= 0 && p < posts();
        }

        boolean crowIs(int c) {
            return c >= 0 && c < crows();
        }

        int set(Iterable<Integer> members) {
            int set = 0;
            for (int k : members) {
                set |= 1 << k;
            }
            return set;
        }

        void note() {
            past.add(now.copy());
            if (past.size() > 20) {
                past.remove(0);
            }
        }

        int plateau() {
            Told told = new Told(text);
            text = "";
            faultPlace = told.fault == null ? NONE : told.fault.place();
            if (told.fault != null) {
                return -10 - told.fault.kind();
            }
            plan = told;
            now = new Scene();
            for (int[] w : told.rows.get('w')) {
                for (int a = 0; a < w[0]; a++) {
                    now.snow.add(0);
                }
            }
            told.rows.get('p').forEach(p -> now.cellOfPost.add(p[0]));
            told.rows.get('c').forEach(c -> now.bids.add(c[0]));
            told.rows.get('c').forEach(c -> now.paid.add(0));
            past.clear();
            sits.clear();
            book.clear();
            images[0] = null;
            images[1] = null;
            return cells();
        }

        int b() {
            return plan.rows.get('w').get(0)[1];
        }

        List<Integer> openCells(Scene scene) {
            List<Integer> cells = new ArrayList<>();
            for (int[] r : plan.rows.get('r')) {
                if (scene.snow.get(r[0]) <= plan.rows.get('w').get(0)[2]) {
                    cells.add(r[0]);
                }
            }
            return cells;
        }

        boolean open(Scene scene) {
            return openCells(scene).size() == plan.rows.get('r').size();
        }

        Scene behind(Scene from, int n) {
            Scene scene = from.copy();
            List<int[]> winds = plan.rows.get('h');
            for (int k = 0; k < n && cells() > 0; k++) {
                int[] wind = winds.isEmpty() ? new int[] {9, 0} : winds.get(scene.hours % winds.size());
                scene.blow(b(), wind[0], wind[1]);
            }
            return scene;
        }

        int told(int what) {
            List<Integer> standing = new ArrayList<>();
            for (int p = 0; p < posts(); p++) {
                if (!now.down.contains(p)) {
                    standing.add(p);
                }
            }
            List<Integer> road = new ArrayList<>();
            plan.rows.get('r').forEach(r -> road.add(r[0]));
            int[] all = {cells(), posts(), crows(), plan.rows.get('h').size(), text.length(), now.hours,
                now.paid.stream().mapToInt(Integer::intValue).sum(), set(road), set(openCells(now)), set(standing),
                set(now.crowOfPost.keySet()), now.all(), sits.size(), book.size(), past.size()};
            return what < 0 || what >= all.length ? OUTSIDE : all[what];
        }

        int postOf(int c) {
            for (Map.Entry<Integer, Integer> entry : now.crowOfPost.entrySet()) {
                if (entry.getValue() == c) {
                    return entry.getKey();
                }
            }
            return NONE;
        }

        int post(int p, int what) {
            if (!postIs(p)) {
                return UNKNOWN;
            }
            return switch (what) {
                case 0 -> now.cellOfPost.get(p);
                case 1 -> plan.rows.get('p').get(p)[1];
                case 2 -> now.crowOfPost.getOrDefault(p, NONE);
                case 3 -> now.down.contains(p) ? 0 : 1;
                default -> OUTSIDE;
            };
        }

        int crow(int c, int what) {
            if (!crowIs(c)) {
                return UNKNOWN;
            }
            return switch (what) {
                case 0 -> now.bids.get(c);
                case 1 -> plan.rows.get('c').get(c)[1];
                case 2 -> postOf(c);
                case 3 -> now.paid.get(c);
                default -> OUTSIDE;
            };
        }

        int blows(int n, boolean drawn) {
            if (n < 1 || n > 60) {
                return OUTSIDE;
            }
            if (cells() == 0) {
                return NOT;
            }
            if (now.hours > 9000) {
                return FULL;
            }
            note();
            for (int k = 0; k < n; k++) {
                if (drawn) {
                    int s = draw(19);
                    int i = draw(11);
                    now.blow(b(), s, i);
                } else {
                    now = behind(now, 1);
                }
            }
            return now.all();
        }

        int draw(int n) {
            seed = (seed * 1103515245L + 12345L) & 0x7fffffffL;
            return (int) ((seed >> 16) % n);
        }

        int worth(int p, int c) {
            if (!postIs(p) || !crowIs(c)) {
                return UNKNOWN;
            }
            return now.bids.get(c) + plan.rows.get('c').get(c)[1] * plan.rows.get('p').get(p)[1];
        }

        int let(int p, int c) {
            if (!postIs(p) || !crowIs(c)) {
                return UNKNOWN;
            }
            if (now.crowOfPost.containsKey(p) || now.crowOfPost.containsValue(c)) {
                return NOT;
            }
            note();
            now.crowOfPost.put(p, c);
            now.down.remove(p);
            now.paid.set(c, now.paid.get(c) + worth(p, c));
            return worth(p, c);
        }

        int giveUp(int p) {
            if (!postIs(p)) {
                return UNKNOWN;
            }
            if (!now.crowOfPost.containsKey(p)) {
                return NOT;
            }
            note();
            return now.crowOfPost.remove(p);
        }

        boolean movable(int p, boolean right) {
            int to = now.cellOfPost.get(p) + (right ? 1 : -1);
            return cell(to) && !now.cellOfPost.contains(to);
        }

        int move(int p, boolean right) {
            if (!postIs(p)) {
                return UNKNOWN;
            }
            if (!movable(p, right)) {
                return NOT;
            }
            note();
            now.cellOfPost.set(p, now.cellOfPost.get(p) + (right ? 1 : -1));
            return now.cellOfPost.get(p);
        }

        int thaw(int t) {
            if (t < 1 || t > 99) {
                return OUTSIDE;
            }
            if (cells() == 0) {
                return NOT;
            }
            note();
            now.snow.replaceAll(s -> s < t ? 0 : s - t);
            return now.all();
        }

        int shout(int c) {
            if (!crowIs(c)) {
                return UNKNOWN;
            }
            note();
            if (now.bids.get(c) > 0) {
                now.bids.set(c, now.bids.get(c) - 1);
            }
            return now.bids.get(c);
        }

        int undo() {
            if (past.isEmpty()) {
                return NOT;
            }
            now = past.remove(past.size() - 1);
            return past.size();
        }

        int lies(int a, int n) {
            return !cell(a) ? UNKNOWN : n < 0 || n > 40 ? OUTSIDE : behind(now, n).snow.get(a);
        }

        int open(int n) {
            return n < 0 || n > 40 ? OUTSIDE : open(behind(now, n)) ? 1 : 0;
        }

        /** All ways to let posts, in the order of the document. */
        List<int[]> ways() {
            List<int[]> ways = new ArrayList<>();
            grow(new int[posts()], 0, ways);
            return ways;
        }

        void grow(int[] way, int p, List<int[]> ways) {
            if (p == way.length) {
                ways.add(way.clone());
                return;
            }
            for (int c = 0; c <= crows(); c++) {
                int crow = c < crows() ? c : NONE;
                boolean had = false;
                for (int q = 0; q < p; q++) {
                    had |= crow != NONE && way[q] == crow;
                }
                if (!had) {
                    way[p] = crow;
                    grow(way, p + 1, ways);
                }
            }
        }

        boolean opens(int posts, int n) {
            Scene scene = now.copy();
            scene.down.clear();
            scene.crowOfPost.clear();
            for (int p = 0; p < posts(); p++) {
                if ((posts >> p & 1) == 1) {
                    scene.crowOfPost.put(p, 0);
                }
            }
            return open(behind(scene, n));
        }

        int lets(int n, int p) {
            if (p != NONE && !postIs(p)) {
                return UNKNOWN;
            }
            if (n < 1 || n > 40) {
                return OUTSIDE;
            }
            Map<Integer, Boolean> openBy = new HashMap<>();
            int[] best = null;
            int most = NONE;
            for (int[] way : ways()) {
                List<Integer> used = new ArrayList<>();
                int sum = 0;
                for (int q = 0; q < way.length; q++) {
                    if (way[q] != NONE) {
                        used.add(q);
                        sum += worth(q, way[q]);
                    }
                }
                if (sum > most && openBy.computeIfAbsent(set(used), s -> opens(s, n))) {
                    most = sum;
                    best = way;
                }
            }
            return p == NONE || best == null ? most : best[p];
        }

        int fewest(int n) {
            if (n < 1 || n > 40) {
                return OUTSIDE;
            }
            int best = NONE;
            for (int s = (1 << posts()) - 1; s >= 0; s--) {
                if ((best == NONE || Integer.bitCount(s) <= Integer.bitCount(best)) && opens(s, n)) {
                    best = s;
                }
            }
            return best;
        }

        int yard(int p, int a, int n) {
            if (!postIs(p) || !cell(a)) {
                return UNKNOWN;
            }
            if (n < 0 || n > 40) {
                return OUTSIDE;
            }
            if (!movable(p, true)) {
                return NONE;
            }
            Scene moved = now.copy();
            moved.cellOfPost.set(p, moved.cellOfPost.get(p) + 1);
            return 10000 + behind(moved, n).snow.get(a) - behind(now, n).snow.get(a);
        }

        int out(int a, int t) {
            if (!cell(a)) {
                return UNKNOWN;
            }
            if (t < 1 || t > 99) {
                return OUTSIDE;
            }
            int hours = 0;
            for (int left = now.snow.get(a); left > 0; left -= t) {
                hours++;
            }
            return hours;
        }

        int still(int n, int q) {
            if (n < 0 || n > 60 || q < 0 || q > 100) {
                return OUTSIDE;
            }
            long odds = 1000000000L;
            for (int k = 0; k < n; k++) {
                odds = (odds * 100 - odds * q) / 100;
            }
            return (int) odds;
        }

        int see(int c, int p) {
            if (!crowIs(c) || !postIs(p)) {
                return UNKNOWN;
            }
            if (sits.size() == 6) {
                return FULL;
            }
            sits.add(new int[] {c, p});
            return sits.size();
        }

        boolean seen(int c, int p) {
            return sits.stream().anyMatch(s -> s[0] == c && s[1] == p);
        }

        int sublets(int what) {
            Set<Integer> crows = new TreeSet<>();
            for (int[] sit : sits) {
                int tenant = now.crowOfPost.getOrDefault(sit[1], NONE);
                if (tenant != NONE && tenant != sit[0]) {
                    if (what == 1) {
                        crows.add(sit[0]);
                    } else if (!seen(tenant, sit[1])) {
                        crows.add(tenant);
                    }
                }
            }
            return what == 0 || what == 1 ? set(crows) : OUTSIDE;
        }

        int fit(int what) {
            if (what != 0 && what != 1) {
                return OUTSIDE;
            }
            int count = 0;
            List<Set<Integer>> tenants = new ArrayList<>();
            for (int p = 0; p < posts(); p++) {
                tenants.add(new TreeSet<>());
            }
            for (int[] way : ways()) {
                boolean fits = true;
                for (int[] sit : sits) {
                    int crow = way[sit[1]];
                    fits &= crow != NONE && (seen(crow, sit[1]) || sits.stream().noneMatch(s -> s[0] == crow));
                }
                if (fits) {
                    count++;
                    for (int p = 0; p < way.length; p++) {
                        tenants.get(p).add(way[p]);
                    }
                }
            }
            int look = NONE;
            for (int p = posts() - 1; p >= 0 && count > 0; p--) {
                if (look == NONE || tenants.get(p).size() >= tenants.get(look).size()) {
                    look = p;
                }
            }
            return what == 0 ? count : look;
        }

        int write(int a, int snow) {
            if (!cell(a)) {
                return UNKNOWN;
            }
            if (snow < 0 || snow > 9999) {
                return OUTSIDE;
            }
            if (book.size() == 15) {
                return FULL;
            }
            book.add(new int[] {a, snow});
            return book.size();
        }

        int tear() {
            int both = sits.size() + book.size();
            sits.clear();
            book.clear();
            return both;
        }

        int judge() {
            int k = 0;
            while (k < book.size() && now.snow.get(book.get(k)[0]) == book.get(k)[1]) {
                k++;
            }
            return k < book.size() ? k : NONE;
        }

        int seed(int v) {
            if (v < 0) {
                return OUTSIDE;
            }
            int was = (int) seed;
            seed = v;
            return was;
        }

        int keep(int i) {
            if (i < 0 || i > 1) {
                return UNKNOWN;
            }
            images[i] = new Image(now.copy(), seed);
            past.clear();
            return 1;
        }

        int goBack(int i) {
            if (i < 0 || i > 1) {
                return UNKNOWN;
            }
            if (images[i] == null) {
                return NOT;
            }
            now = images[i].scene().copy();
            seed = images[i].seed();
            past.clear();
            return 1;
        }
    }

    /** One run of drawn calls on a new object and a new model. */
    private static final class Run {
        private static final int[] ODD = {Integer.MIN_VALUE, -1000000001, -100, -2, -1, 13, 16, 41, 61, 100, 101, 256,
            10000, Integer.MAX_VALUE};
        private final int run;
        private final Random random;
        private final CrowFences x = new CrowFences();
        private final Model m = new Model();
        private int calls = 0;
        private boolean agrees = true;

        Run(int run) {
            this.run = run;
            this.random = new Random(7919L * run + 1);
        }

        boolean agrees() {
            if (run % 10 != 3) {
                tell();
            }
            // Some runs are long in hours, so that they meet the bounds of snow and hours.
            boolean manyHours = run % 8 == 5;
            while (calls < CALLS - 300 && run % 7 == 6) {
                tell();
            }
            while (calls < CALLS && agrees) {
                if (manyHours && random.nextInt(2) == 0) {
                    int n = 40 + random.nextInt(21);
                    check("hour(" + n + ")", x.hour(n), m.blows(n, false));
                } else {
                    step();
                }
            }
            return agrees;
        }

        private void check(String call, int got, int want) {
            calls++;
            if (got != want && agrees) {
                agrees = false;
                System.out.println("run " + run + ", call " + calls + ": " + call + " answered " + got + ", due is " + want);
            }
        }

        private int any(int below) {
            int k = random.nextInt(24);
            if (k == 0) {
                return ODD[random.nextInt(ODD.length)];
            }
            return k == 1 ? below : random.nextInt(Math.max(1, below));
        }

        private int from(int least, int most) {
            int k = random.nextInt(16);
            return k == 0 ? least - 1 : k == 1 ? most + 1 : k == 2 ? least : k == 3 ? most
                : least + random.nextInt(most - least + 1);
        }

        private void tell() {
            String text = Texts.drawn(random);
            for (int i = 0; i < text.length() && calls < CALLS; i++) {
                feed(text.charAt(i));
            }
            check("plateau() of " + text, x.plateau(), m.plateau());
            check("fault() of " + text, x.fault(), m.faultPlace);
        }

        private void feed(int letter) {
            int want = letter < 0 || letter > 255 ? OUTSIDE : m.text.length() == 240 ? FULL : m.text.length() + 1;
            if (want > 0) {
                m.text += (char) letter;
            }
            check("feed(" + letter + ")", x.feed(letter), want);
        }

        private void step() {
            switch (random.nextInt(6)) {
                case 0 -> ask();
                case 1, 2 -> change();
                case 3 -> seen();
                case 4 -> attempt();
                default -> {
                    if (random.nextInt(3) == 0) {
                        keepOrDraw();
                    } else {
                        change();
                    }
                }
            }
            if (random.nextInt(12) == 0) {
                askAll();
            }
            if (random.nextInt(150) == 0) {
                tell();
            }
            if (random.nextInt(100) == 0) {
                feed(random.nextInt(3) == 0 ? ODD[random.nextInt(ODD.length)] : random.nextInt(256));
            }
        }

        private void askAll() {
            for (int what = 0; what < 15; what++) {
                check("told(" + what + ")", x.told(what), m.told(what));
            }
            for (int a = 0; a < m.cells(); a++) {
                check("snow(" + a + ")", x.snow(a), m.now.snow.get(a));
            }
        }

        private void ask() {
            int a = any(m.cells());
            int p = any(m.posts());
            int c = any(m.crows());
            int what = from(0, 3);
            switch (random.nextInt(5)) {
                case 0 -> check("snow(" + a + ")", x.snow(a), m.cell(a) ? m.now.snow.get(a) : UNKNOWN);
                case 1 -> check("post(" + p + ", " + what + ")", x.post(p, what), m.post(p, what));
                case 2 -> check("crow(" + c + ", " + what + ")", x.crow(c, what), m.crow(c, what));
                case 3 -> check("fault()", x.fault(), m.faultPlace);
                default -> {
                    int all = from(0, 14);
                    check("told(" + all + ")", x.told(all), m.told(all));
                }
            }
        }

        private void change() {
            int p = any(m.posts());
            int c = any(m.crows());
            switch (random.nextInt(11)) {
                case 0, 1 -> check("let(" + p + ", " + c + ")", x.let(p, c), m.let(p, c));
                case 2 -> check("giveUp(" + p + ")", x.giveUp(p), m.giveUp(p));
                case 3, 4 -> {
                    boolean right = random.nextBoolean();
                    check("move(" + p + ", " + right + ")", x.move(p, right), m.move(p, right));
                }
                case 5 -> {
                    int t = from(1, 99);
                    check("thaw(" + t + ")", x.thaw(t), m.thaw(t));
                }
                case 6 -> check("shout(" + c + ")", x.shout(c), m.shout(c));
                case 7 -> {
                    int n = random.nextInt(3) == 0 ? from(1, 60) : from(1, 4);
                    check("drift(" + n + ")", x.drift(n), m.blows(n, true));
                }
                case 8, 9 -> {
                    int n = random.nextInt(4) == 0 ? from(1, 60) : from(1, 3);
                    check("hour(" + n + ")", x.hour(n), m.blows(n, false));
                }
                default -> {
                    int times = random.nextInt(8) == 0 ? 22 : 1;
                    for (int k = 0; k < times; k++) {
                        check("undo()", x.undo(), m.undo());
                    }
                }
            }
        }

        private void attempt() {
            int a = any(m.cells());
            int p = any(m.posts());
            int c = any(m.crows());
            int n = random.nextInt(2) == 0 ? from(0, 40) : random.nextInt(4);
            switch (random.nextInt(9)) {
                case 0 -> check("lies(" + a + ", " + n + ")", x.lies(a, n), m.lies(a, n));
                case 1 -> check("open(" + n + ")", x.open(n), m.open(n));
                case 2 -> check("worth(" + p + ", " + c + ")", x.worth(p, c), m.worth(p, c));
                case 3, 4 -> {
                    int of = random.nextInt(3) == 0 ? NONE : p;
                    check("lets(" + n + ", " + of + ")", x.lets(n, of), m.lets(n, of));
                }
                case 5 -> check("fewest(" + n + ")", x.fewest(n), m.fewest(n));
                case 6 -> check("yard(" + p + ", " + a + ", " + n + ")", x.yard(p, a, n), m.yard(p, a, n));
                case 7 -> {
                    int t = from(1, 99);
                    check("out(" + a + ", " + t + ")", x.out(a, t), m.out(a, t));
                }
                default -> {
                    int nights = from(0, 60);
                    int q = random.nextInt(2) == 0 ? from(0, 10) : from(0, 100);
                    check("still(" + nights + ", " + q + ")", x.still(nights, q), m.still(nights, q));
                }
            }
        }

        private void seen() {
            int a = any(m.cells());
            int p = any(m.posts());
            int c = any(m.crows());
            int what = from(0, 1);
            switch (random.nextInt(12)) {
                case 0, 1, 2 -> check("see(" + c + ", " + p + ")", x.see(c, p), m.see(c, p));
                case 3, 4 -> check("sublets(" + what + ")", x.sublets(what), m.sublets(what));
                case 5, 6 -> check("fit(" + what + ")", x.fit(what), m.fit(what));
                case 7, 8, 9 -> {
                    int snow = m.cell(a) && random.nextInt(5) != 0 ? m.now.snow.get(a) : from(0, 9999);
                    check("write(" + a + ", " + snow + ")", x.write(a, snow), m.write(a, snow));
                }
                case 10 -> check("judge()", x.judge(), m.judge());
                default -> {
                    if (random.nextInt(4) == 0) {
                        check("tear()", x.tear(), m.tear());
                    }
                }
            }
        }

        private void keepOrDraw() {
            int i = from(0, 1);
            switch (random.nextInt(3)) {
                case 0 -> {
                    int v = random.nextInt(5) == 0 ? from(0, 2147483646) : random.nextInt();
                    check("seed(" + v + ")", x.seed(v), m.seed(v));
                }
                case 1 -> check("keep(" + i + ")", x.keep(i), m.keep(i));
                default -> check("goBack(" + i + ")", x.goBack(i), m.goBack(i));
            }
        }
    }

    /** Drawn texts: most without a fault, some with letters changed. */
    private static final class Texts {
        static String drawn(Random random) {
            StringBuilder text = new StringBuilder();
            boolean loose = random.nextInt(4) == 0;
            int cells = random.nextInt(3) == 0 ? 12 : 1 + random.nextInt(12);
            int d = random.nextInt(3) == 0 ? random.nextInt(100) : 30 + random.nextInt(70);
            clause(random, text, loose, 'w', cells, random.nextInt(10), d);
            List<int[]> rest = new ArrayList<>();
            List<Integer> order = new ArrayList<>();
            for (int a = 0; a < cells; a++) {
                order.add(random.nextInt(order.size() + 1), a);
            }
            int some = random.nextInt(3) == 0 ? 0 : random.nextInt(Math.min(4, cells) + 1);
            for (int k = 0; k < some; k++) {
                rest.add(new int[] {'r', order.get(k)});
            }
            some = Math.min(cells, random.nextInt(3) == 0 ? 6 : random.nextInt(5));
            for (int k = 0; k < some; k++) {
                rest.add(new int[] {'p', order.get(cells - 1 - k), random.nextInt(10)});
            }
            some = random.nextInt(4) == 0 ? 5 : random.nextInt(4);
            for (int k = 0; k < some; k++) {
                rest.add(new int[] {'c', random.nextInt(random.nextBoolean() ? 4 : 100), random.nextInt(random.nextBoolean() ? 3 : 10)});
            }
            some = random.nextInt(5) == 0 ? 10 : random.nextInt(6);
            int snowy = 1 + random.nextInt(31);
            for (int k = 0; k < some; k++) {
                rest.add(new int[] {'h', random.nextInt(19), random.nextInt(snowy)});
            }
            Collections.shuffle(rest, random);
            for (int[] row : rest) {
                clause(random, text, loose, (char) row[0], Arrays.copyOfRange(row, 1, row.length));
            }
            for (int k = random.nextInt(3) == 0 ? 1 + random.nextInt(2) : 0; k > 0 && text.length() > 0; k--) {
                change(random, text);
            }
            return random.nextInt(20) == 0 ? "" : text.length() > 245 ? text.substring(0, 245) : text.toString();
        }

        private static void clause(Random random, StringBuilder text, boolean loose, char word, int... numbers) {
            blanks(random, text, loose);
            text.append(word);
            for (int k = 0; k < numbers.length; k++) {
                if (k > 0) {
                    text.append(' ');
                }
                blanks(random, text, loose);
                if (loose && random.nextInt(8) == 0) {
                    text.append('0');
                }
                text.append(numbers[k]);
            }
            blanks(random, text, loose);
            text.append(';');
            blanks(random, text, loose);
        }

        private static void blanks(Random random, StringBuilder text, boolean loose) {
            if (loose && random.nextInt(4) == 0) {
                text.append(' ');
            }
        }

        private static void change(Random random, StringBuilder text) {
            String likely = "wrpch;; 0123456789";
            int i = random.nextInt(text.length());
            char letter = random.nextInt(10) == 0 ? (char) random.nextInt(256) : likely.charAt(random.nextInt(likely.length()));
            switch (random.nextInt(4)) {
                case 0 -> text.deleteCharAt(i);
                case 1 -> text.insert(i, letter);
                case 2 -> text.setCharAt(i, letter);
                default -> text.setLength(i);
            }
        }
    }
}
