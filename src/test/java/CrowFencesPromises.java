/** For each promise of the document: ordinary inputs, the edges that it names, wrong inputs. */
public final class CrowFencesPromises {
    private static final int NONE = -1, UNKNOWN = -1000000001, OUTSIDE = -1000000002, NOT = -1000000003, FULL = -1000000004;

    /** Four cells; winds right by 3, calm, left by 3; nobody let: 4 6 7 7, then 9 11 12 12, then 13 14 15 14. */
    private static final String SMALL = "w4 2 9;r1;r3;p0 3;p2 5;c7 2;c0 1;h12 8;h9 5;h6 4;";
    private static final String[] WORDS = {"w", "r", "p", "c", "h"};

    private static int promise = 0;
    private static int asked = 0;
    private static int wrong = 0;

    public static void main(String[] args) {
        newObject();
        feed();
        plateau();
        faultsOfPlace();
        faultsOfNumbers();
        faultsOfTooMany();
        faultsOfTaken();
        faultsInOrder();
        fault();
        told();
        snow();
        post();
        crow();
        hour();
        hourAtItsLimits();
        let();
        giveUp();
        move();
        thaw();
        shout();
        drift();
        undo();
        undoBringsAllBack();
        lies();
        open();
        worth();
        lets();
        letsOfLikeOnes();
        fewest();
        yard();
        out();
        still();
        see();
        sublets();
        fit();
        look();
        write();
        tear();
        judge();
        seed();
        keep();
        goBack();
        System.out.println(wrong == 0 ? asked + " answers are as due" : wrong + " answers are not as due");
        if (wrong != 0) {
            System.exit(1);
        }
    }

    private static void due(String call, int got, int want) {
        asked++;
        if (got != want) {
            wrong++;
            System.out.println("promise " + promise + ": " + call + " answered " + got + ", due is " + want);
        }
    }

    private static void feedAll(CrowFences x, String text) {
        for (int i = 0; i < text.length(); i++) {
            x.feed(text.charAt(i));
        }
    }

    private static CrowFences made(String text) {
        CrowFences x = new CrowFences();
        feedAll(x, text);
        int cells = x.plateau();
        if (cells < 0) {
            due("plateau() of " + text, cells, 0);
        }
        return x;
    }

    private static void dueTold(CrowFences x, int... wants) {
        for (int what = 0; what < wants.length; what++) {
            due("told(" + what + ")", x.told(what), wants[what]);
        }
    }

    private static void dueSnow(CrowFences x, int... wants) {
        for (int a = 0; a < wants.length; a++) {
            due("snow(" + a + ")", x.snow(a), wants[a]);
        }
    }

    private static void dueFault(String text, int kind, int place) {
        CrowFences x = new CrowFences();
        feedAll(x, text);
        due("plateau() of '" + text + "'", x.plateau(), -10 - kind);
        due("fault() of '" + text + "'", x.fault(), place);
        due("told(4) behind '" + text + "'", x.told(4), 0);
    }

    private static void dueCells(String text, int cells) {
        CrowFences x = new CrowFences();
        feedAll(x, text);
        due("plateau() of '" + text + "'", x.plateau(), cells);
        due("fault() of '" + text + "'", x.fault(), NONE);
    }

    private static void newObject() {
        promise = 1;
        CrowFences x = new CrowFences();
        dueTold(x, 0, 0, 0, 0, 0, 0, 0, 0, 0, 0, 0, 0, 0, 0, 0);
        due("fault()", x.fault(), NONE);
        due("snow(0)", x.snow(0), UNKNOWN);
        due("post(0, 0)", x.post(0, 0), UNKNOWN);
        due("crow(0, 0)", x.crow(0, 0), UNKNOWN);
        due("hour(1)", x.hour(1), NOT);
        due("let(0, 0)", x.let(0, 0), UNKNOWN);
        due("giveUp(0)", x.giveUp(0), UNKNOWN);
        due("move(0, true)", x.move(0, true), UNKNOWN);
        due("thaw(1)", x.thaw(1), NOT);
        due("shout(0)", x.shout(0), UNKNOWN);
        due("drift(1)", x.drift(1), NOT);
        due("undo()", x.undo(), NOT);
        due("lies(0, 0)", x.lies(0, 0), UNKNOWN);
        due("open(0)", x.open(0), 1);
        due("worth(0, 0)", x.worth(0, 0), UNKNOWN);
        due("lets(1, NONE)", x.lets(1, NONE), 0);
        due("fewest(1)", x.fewest(1), 0);
        due("yard(0, 0, 0)", x.yard(0, 0, 0), UNKNOWN);
        due("out(0, 1)", x.out(0, 1), UNKNOWN);
        due("see(0, 0)", x.see(0, 0), UNKNOWN);
        due("sublets(0)", x.sublets(0), 0);
        due("sublets(1)", x.sublets(1), 0);
        due("fit(0)", x.fit(0), 1);
        due("fit(1)", x.fit(1), NONE);
        due("write(0, 0)", x.write(0, 0), UNKNOWN);
        due("tear()", x.tear(), 0);
        due("judge()", x.judge(), NONE);
        due("goBack(0)", x.goBack(0), NOT);
        due("seed(1)", x.seed(1), 0);
        due("keep(0)", x.keep(0), 1);
        due("seed(2)", x.seed(2), 1);
        due("goBack(0)", x.goBack(0), 1);
        due("seed(0)", x.seed(0), 1);
    }

    private static void feed() {
        promise = 2;
        CrowFences x = new CrowFences();
        due("feed(-1)", x.feed(-1), OUTSIDE);
        due("feed(256)", x.feed(256), OUTSIDE);
        due("feed(MIN)", x.feed(Integer.MIN_VALUE), OUTSIDE);
        due("feed(MAX)", x.feed(Integer.MAX_VALUE), OUTSIDE);
        due("feed(0)", x.feed(0), 1);
        due("feed(255)", x.feed(255), 2);
        for (int n = 3; n <= 240; n++) {
            due("feed(32)", x.feed(32), n);
        }
        due("feed(32)", x.feed(32), FULL);
        due("feed(256)", x.feed(256), OUTSIDE);
        due("told(4)", x.told(4), 240);
        due("plateau()", x.plateau(), -11);
        due("fault()", x.fault(), 0);
        due("feed(119)", x.feed(119), 1);
    }

    private static void plateau() {
        promise = 3;
        CrowFences x = made(SMALL);
        due("told(4)", x.told(4), 0);
        dueTold(x, 4, 2, 2, 3, 0, 0, 0, 10, 10, 3, 0, 0, 0, 0, 0);
        dueCells("", 0);
        dueCells("   ", 0);
        dueCells("w1 0 0;", 1);
        dueCells("w12 9 99;", 12);
        dueCells("  w 012  009 099  ;  r 0 ; r011;p 5 9;p0 0;c99 9 ;c0 0;h18 30;h0 0; ", 12);
        dueCells("w7 0 0;p0 0;p1 0;p2 0;p3 0;p4 0;p5 0;c0 0;c0 0;c0 0;c0 0;c0 0;"
                + "h0 0;h0 0;h0 0;h0 0;h0 0;h0 0;h0 0;h0 0;h0 0;h0 0;r0;r1;r2;r3;r4;r5;r6;", 7);
        String full = "w3 1 2;";
        while (full.length() < 240) {
            full += " ";
        }
        dueCells(full, 3);

        // With a fault all else is as it was, but the text.
        x.let(0, 0);
        x.hour(1);
        x.see(0, 0);
        x.write(0, 3);
        x.seed(77);
        x.keep(1);
        x.hour(1);
        feedAll(x, "w2 0 0;p1 4;c5 5;h18 9;r0;x");
        due("plateau()", x.plateau(), -11);
        // With a let fence in cell 0: 8 4 6 7, then 5 more each.
        dueTold(x, 4, 2, 2, 3, 0, 2, 13, 10, 2, 1, 1, 45, 1, 1, 1);
        due("post(0, 0)", x.post(0, 0), 0);
        due("crow(0, 0)", x.crow(0, 0), 7);
        due("lies(3, 1)", x.lies(3, 1) > x.snow(3) ? 1 : 0, 1);

        // Without one all begins anew, but the seed.
        feedAll(x, "w2 0 0;r0;p1 4;c5 5;h18 9;");
        due("plateau()", x.plateau(), 2);
        dueTold(x, 2, 1, 1, 1, 0, 0, 0, 1, 1, 1, 0, 0, 0, 0, 0);
        due("post(0, 0)", x.post(0, 0), 1);
        due("post(0, 2)", x.post(0, 2), NONE);
        due("crow(0, 0)", x.crow(0, 0), 5);
        due("crow(0, 3)", x.crow(0, 3), 0);
        due("goBack(1)", x.goBack(1), NOT);
        due("undo()", x.undo(), NOT);
        due("judge()", x.judge(), NONE);
        due("seed(78)", x.seed(78), 77);
        x.hour(1);
        x.see(0, 0);
        x.write(0, 1);
        x.keep(0);
        due("plateau() of nothing", x.plateau(), 0);
        dueTold(x, 0, 0, 0, 0, 0, 0, 0, 0, 0, 0, 0, 0, 0, 0, 0);
        due("goBack(0)", x.goBack(0), NOT);
        due("hour(1)", x.hour(1), NOT);
        due("seed(0)", x.seed(0), 78);
    }

    private static void faultsOfPlace() {
        promise = 3;
        dueFault("x", 1, 0);
        dueFault(";", 1, 0);
        dueFault("7", 1, 0);
        dueFault("  r0;", 1, 2);
        for (int k = 1; k < WORDS.length; k++) {
            dueFault(WORDS[k] + "0 0;", 1, 0);
        }
        dueFault("w", 1, 1);
        dueFault("w ", 1, 2);
        dueFault("w;", 1, 1);
        dueFault("w3", 1, 2);
        dueFault("w3;", 1, 2);
        dueFault("w3 1", 1, 4);
        dueFault("w3 1;", 1, 4);
        dueFault("w3 1 2", 1, 6);
        dueFault("w3 1 2 ", 1, 7);
        dueFault("w3 1 2 4;", 1, 7);
        dueFault("w3 1 2r;", 1, 6);
        dueFault("w3,1 2;", 1, 2);
        dueFault("w-3 1 2;", 1, 1);
        dueFault("w3 1 2;;", 1, 7);
        dueFault("w3 1 2;5", 1, 7);
        dueFault("w3 1 2;W", 1, 7);
        dueFault("w3 1 2;r;", 1, 8);
        dueFault("w3 1 2;rw", 1, 8);
        dueFault("w3 1 2;r0", 1, 9);
        dueFault("w3 1 2;r0 1;", 1, 10);
        dueFault("w3 1 2;p0;", 1, 9);
        dueFault("w3 1 2;p0 1 2;", 1, 12);
        dueFault("w3 1 2;c5;", 1, 9);
        dueFault("w3 1 2;c5 5", 1, 11);
        dueFault("w3 1 2;h5;", 1, 9);
        dueFault("w3 1 2;h5 5 ", 1, 12);
        dueFault("w3\t1 2;", 1, 2);
        dueFault("w3 1 2;" + (char) 160, 1, 7);
        dueFault("w3 1 2;" + (char) 0, 1, 7);
        dueFault("w3 1 2;" + (char) 255, 1, 7);
    }

    private static void faultsOfNumbers() {
        promise = 3;
        dueFault("w0 0 0;", 2, 1);
        dueFault("w13 0 0;", 2, 1);
        dueFault("w1 10 0;", 2, 3);
        dueFault("w1 0 100;", 2, 5);
        dueFault("w0001 0 0;", 2, 1);
        dueFault("w  0012 0 0;", 2, 3);
        dueFault("w120", 2, 1);
        dueFault("w1 0 00000000000000000000;", 2, 5);
        dueFault("w10001 0 0;", 2, 1);
        dueFault("w4294967297 0 0;", 2, 1);
        dueFault("w3 1 2;r3;", 2, 8);
        dueFault("w3 1 2;r 3;", 2, 9);
        dueFault("w12 1 2;r12;", 2, 9);
        dueFault("w3 1 2;r999;", 2, 8);
        dueFault("w3 1 2;p3 0;", 2, 8);
        dueFault("w3 1 2;p0 10;", 2, 10);
        dueFault("w3 1 2;p01;", 1, 10);
        dueFault("w3 1 2;p25;", 2, 8);
        dueFault("w3 1 2;c100 0;", 2, 8);
        dueFault("w3 1 2;c99 10;", 2, 11);
        dueFault("w3 1 2;h19 0;", 2, 8);
        dueFault("w3 1 2;h18 31;", 2, 11);
        dueFault("w3 1 2;h0000 0;", 2, 8);
        dueFault("w3 1 2;h0 1000", 2, 10);
    }

    private static void faultsOfTooMany() {
        promise = 3;
        dueFault("w1 0 0;w", 3, 7);
        dueFault("w1 0 0; w1 0 0;", 3, 8);
        dueFault("w9 0 0;p0 0;p1 0;p2 0;p3 0;p4 0;p5 0; p0 0;", 3, 38);
        dueFault("w9 0 0;c0 0;c1 0;c2 0;c3 0;c4 0;c", 3, 32);
        dueFault("w9 0 0;h0 0;h1 0;h2 0;h3 0;h4 0;h5 0;h6 0;h7 0;h8 0;h9 0;h10 0;", 3, 57);
    }

    private static void faultsOfTaken() {
        promise = 3;
        dueFault("w1 0 0;r0;r0;", 4, 11);
        dueFault("w3 0 0;r2;r1;r  2;", 4, 16);
        dueFault("w3 0 0;r2;r002", 4, 11);
        dueFault("w3 0 0;p2 0;p1 0;p2 0;", 4, 18);
        dueFault("w3 0 0;p2 0;p2 99;", 4, 13);
        dueCells("w3 0 0;p2 0;r2;p1 0;r1;", 3);
    }

    private static void faultsInOrder() {
        promise = 3;
        dueFault("w13x", 2, 1);
        dueFault("w1x13", 1, 2);
        dueFault("w1 w", 1, 3);
        dueFault("r0 w", 1, 0);
        dueFault("w3 0 0;r0;r0;r9;", 4, 11);
        dueFault("w3 0 0;r0;r9;r0;", 2, 11);
        dueFault("w3 0 0;w0 0 0;", 3, 7);
        dueFault("w9 0 0;p0 0;p1 0;p2 0;p3 0;p4 0;p", 1, 33);
    }

    private static void fault() {
        promise = 4;
        CrowFences x = new CrowFences();
        due("fault()", x.fault(), NONE);
        feedAll(x, "w3 x");
        due("fault() ahead of plateau()", x.fault(), NONE);
        x.plateau();
        due("fault()", x.fault(), 3);
        feedAll(x, "r0;");
        x.hour(1);
        due("fault() still", x.fault(), 3);
        x.plateau();
        due("fault()", x.fault(), 0);
        feedAll(x, "w3 1 1;");
        x.plateau();
        due("fault() of none", x.fault(), NONE);
        feedAll(x, "w3 1 1");
        x.plateau();
        due("fault() at the end, whatever stood there ahead of it", x.fault(), 6);
        x.plateau();
        due("fault() of nothing", x.fault(), NONE);
    }

    private static void told() {
        promise = 5;
        CrowFences x = made(SMALL);
        due("told(-1)", x.told(-1), OUTSIDE);
        due("told(15)", x.told(15), OUTSIDE);
        due("told(MIN)", x.told(Integer.MIN_VALUE), OUTSIDE);
        x.feed('w');
        x.feed('w');
        x.let(1, 0);
        x.hour(1);
        x.see(0, 1);
        x.see(0, 1);
        x.see(1, 1);
        x.write(0, 5);
        x.write(0, 5);
        dueTold(x, 4, 2, 2, 3, 2, 1, 17, 10, 10, 2, 2, 28, 3, 2, 2);
        x.hour(1);
        due("told(8)", x.told(8), 8);
        x.hour(1);
        due("told(8)", x.told(8), 0);
        x.giveUp(1);
        due("told(10)", x.told(10), 0);
        due("told(9)", x.told(9), 2);
    }

    private static void snow() {
        promise = 6;
        CrowFences x = made(SMALL);
        dueSnow(x, 0, 0, 0, 0);
        x.hour(1);
        dueSnow(x, 4, 6, 7, 7);
        due("snow(-1)", x.snow(-1), UNKNOWN);
        due("snow(4)", x.snow(4), UNKNOWN);
        due("snow(MAX)", x.snow(Integer.MAX_VALUE), UNKNOWN);
    }

    private static void post() {
        promise = 7;
        CrowFences x = made(SMALL);
        due("post(0, 0)", x.post(0, 0), 0);
        due("post(1, 0)", x.post(1, 0), 2);
        due("post(0, 1)", x.post(0, 1), 3);
        due("post(1, 1)", x.post(1, 1), 5);
        due("post(1, 2)", x.post(1, 2), NONE);
        due("post(1, 3)", x.post(1, 3), 1);
        x.let(1, 1);
        x.hour(1);
        x.move(1, false);
        due("post(1, 0)", x.post(1, 0), 1);
        due("post(1, 1)", x.post(1, 1), 5);
        due("post(1, 2)", x.post(1, 2), 1);
        due("post(1, 3)", x.post(1, 3), 1);
        due("post(0, 3)", x.post(0, 3), 0);
        due("post(2, 0)", x.post(2, 0), UNKNOWN);
        due("post(-1, 0)", x.post(-1, 0), UNKNOWN);
        due("post(2, 4)", x.post(2, 4), UNKNOWN);
        due("post(0, 4)", x.post(0, 4), OUTSIDE);
        due("post(0, -1)", x.post(0, -1), OUTSIDE);
    }

    private static void crow() {
        promise = 8;
        CrowFences x = made(SMALL);
        due("crow(0, 0)", x.crow(0, 0), 7);
        due("crow(0, 1)", x.crow(0, 1), 2);
        due("crow(0, 2)", x.crow(0, 2), NONE);
        due("crow(0, 3)", x.crow(0, 3), 0);
        x.shout(0);
        x.let(1, 0);
        due("crow(0, 0)", x.crow(0, 0), 6);
        due("crow(0, 2)", x.crow(0, 2), 1);
        due("crow(0, 3)", x.crow(0, 3), 16);
        due("crow(1, 3)", x.crow(1, 3), 0);
        x.giveUp(1);
        due("crow(0, 2)", x.crow(0, 2), NONE);
        due("crow(0, 3)", x.crow(0, 3), 16);
        x.let(0, 0);
        due("crow(0, 2)", x.crow(0, 2), 0);
        due("crow(0, 3)", x.crow(0, 3), 28);
        due("crow(2, 0)", x.crow(2, 0), UNKNOWN);
        due("crow(-1, 9)", x.crow(-1, 9), UNKNOWN);
        due("crow(1, 4)", x.crow(1, 4), OUTSIDE);
        due("crow(1, -1)", x.crow(1, -1), OUTSIDE);
    }

    private static void hour() {
        promise = 9;
        CrowFences x = made(SMALL);
        due("hour(1)", x.hour(1), 24);
        dueSnow(x, 4, 6, 7, 7);
        due("told(9)", x.told(9), 0);
        due("hour(1)", x.hour(1), 44);
        dueSnow(x, 9, 11, 12, 12);
        due("hour(1)", x.hour(1), 56);
        dueSnow(x, 13, 14, 15, 14);
        due("hour(1) of the first wind again", x.hour(1), 80);
        x = made(SMALL);
        due("hour(3)", x.hour(3), 56);
        due("told(5)", x.told(5), 3);
        due("told(14)", x.told(14), 1);

        // A fence that stands keeps all: 4 and 6, then 14, then 4; leftwards 2 and 6 and 2 and 3.
        x = made(SMALL);
        x.let(1, 0);
        due("hour(1)", x.hour(1), 28);
        dueSnow(x, 4, 6, 14, 4);
        x.hour(1);
        x.hour(1);
        dueSnow(x, 4 + 5 + 3, 6 + 5 + 2, 14 + 5 + 6, 4 + 5 + 2);
        due("post(1, 3)", x.post(1, 3), 1);

        // A wind as strong as B leaves them standing, one stronger does not, right or left.
        x = made("w2 3 0;p1 0;h12 4;h6 4;h5 4;");
        due("hour(1)", x.hour(1), 2 + 6);
        due("told(9)", x.told(9), 1);
        due("hour(1)", x.hour(1), 8 + 4 + 2);
        due("told(9)", x.told(9), 1);
        due("hour(1)", x.hour(1), 14 + 2 + 3);
        due("told(9)", x.told(9), 0);
        x = made("w2 3 0;p1 0;h13 4;");
        due("hour(1)", x.hour(1), 2 + 3);
        due("told(9)", x.told(9), 0);

        // The weakest winds blow too.
        x = made("w3 9 0;h10 8;h8 8;");
        x.hour(1);
        dueSnow(x, 4, 6, 7);
        x.hour(1);
        dueSnow(x, 4 + 7, 6 + 6, 7 + 4);

        // None of the winds: no wind, no snow.
        x = made("w2 0 0;p1 0;");
        due("hour(60)", x.hour(60), 0);
        due("told(5)", x.told(5), 60);
        due("told(9)", x.told(9), 1);
    }

    private static void hourAtItsLimits() {
        promise = 9;
        CrowFences x = made("w2 0 0;r1;p1 0;c1 1;h18 30;");
        due("hour(0)", x.hour(0), OUTSIDE);
        due("hour(61)", x.hour(61), OUTSIDE);
        due("hour(-1)", x.hour(-1), OUTSIDE);
        x.let(0, 0);
        due("hour(60)", x.hour(60), 60 * 60);
        for (int k = 2; k <= 150; k++) {
            due("hour(60)", x.hour(60), Math.min(9999, k * 60 * 15) + Math.min(9999, k * 60 * 45));
        }
        due("told(5)", x.told(5), 9000);
        due("hour(1) at 9000", x.hour(1), 2 * 9999);
        due("told(5)", x.told(5), 9001);
        due("hour(1) above 9000", x.hour(1), FULL);
        due("hour(0) above 9000", x.hour(0), OUTSIDE);
        due("drift(1) above 9000", x.drift(1), FULL);
        due("lies(0, 40) is tried all the same", x.lies(0, 40), 9999);
        x.undo();
        due("hour(60) at 9000", x.hour(60), 2 * 9999);
        due("told(5)", x.told(5), 9060);
        x = new CrowFences();
        due("hour(61) without a plateau", x.hour(61), OUTSIDE);
        due("hour(60) without a plateau", x.hour(60), NOT);
    }

    private static void let() {
        promise = 10;
        CrowFences x = made(SMALL);
        due("let(2, 0)", x.let(2, 0), UNKNOWN);
        due("let(0, 2)", x.let(0, 2), UNKNOWN);
        due("let(-1, 0)", x.let(-1, 0), UNKNOWN);
        due("let(0, -1)", x.let(0, -1), UNKNOWN);
        x.hour(1);
        due("told(9)", x.told(9), 0);
        due("let(1, 0)", x.let(1, 0), 17);
        due("told(9)", x.told(9), 2);
        due("told(10)", x.told(10), 2);
        due("let(1, 1)", x.let(1, 1), NOT);
        due("let(0, 0)", x.let(0, 0), NOT);
        due("let(1, 2)", x.let(1, 2), UNKNOWN);
        due("let(0, 1)", x.let(0, 1), 3);
        due("told(6)", x.told(6), 20);
        due("told(14)", x.told(14), 3);
        x = made("w1 0 0;p0 9;c99 9;");
        due("let(0, 0)", x.let(0, 0), 180);
        x.giveUp(0);
        due("let(0, 0)", x.let(0, 0), 180);
        due("told(6)", x.told(6), 360);
    }

    private static void giveUp() {
        promise = 11;
        CrowFences x = made(SMALL);
        due("giveUp(-1)", x.giveUp(-1), UNKNOWN);
        due("giveUp(2)", x.giveUp(2), UNKNOWN);
        due("giveUp(0)", x.giveUp(0), NOT);
        x.let(0, 1);
        due("giveUp(0)", x.giveUp(0), 1);
        due("post(0, 2)", x.post(0, 2), NONE);
        due("post(0, 3)", x.post(0, 3), 1);
        due("told(6)", x.told(6), 3);
        due("giveUp(0)", x.giveUp(0), NOT);
        due("told(14)", x.told(14), 2);
        x.hour(1);
        due("post(0, 3)", x.post(0, 3), 0);
    }

    private static void move() {
        promise = 12;
        CrowFences x = made(SMALL);
        due("move(-1, true)", x.move(-1, true), UNKNOWN);
        due("move(2, false)", x.move(2, false), UNKNOWN);
        due("move(0, false)", x.move(0, false), NOT);
        due("move(1, true)", x.move(1, true), 3);
        due("move(1, true)", x.move(1, true), NOT);
        due("move(1, false)", x.move(1, false), 2);
        due("move(1, false)", x.move(1, false), 1);
        due("move(1, false)", x.move(1, false), NOT);
        due("move(0, true)", x.move(0, true), NOT);
        due("told(14)", x.told(14), 3);
        x.let(1, 0);
        x.hour(1);
        dueSnow(x, 4, 12, 4, 6);
        x.move(0, false);
        due("move(1, true) let", x.move(1, true), 2);
        due("post(1, 2)", x.post(1, 2), 0);
        due("move(0, true) down", x.move(0, true), 1);
        due("post(0, 3)", x.post(0, 3), 0);
        dueSnow(x, 4, 12, 4, 6);
        x = made("w3 0 0;p1 0;");
        due("move(0, false) to the first", x.move(0, false), 0);
        due("move(0, false) past it", x.move(0, false), NOT);
        x = made("w1 0 0;p0 0;");
        due("move(0, true)", x.move(0, true), NOT);
        due("move(0, false)", x.move(0, false), NOT);
    }

    private static void thaw() {
        promise = 13;
        CrowFences x = made(SMALL);
        due("thaw(0)", x.thaw(0), OUTSIDE);
        due("thaw(100)", x.thaw(100), OUTSIDE);
        due("thaw(1) of no snow", x.thaw(1), 0);
        x.hour(1);
        due("thaw(6)", x.thaw(6), 2);
        dueSnow(x, 0, 0, 1, 1);
        due("told(14)", x.told(14), 3);
        due("told(5)", x.told(5), 1);
        due("thaw(99)", x.thaw(99), 0);
        x = new CrowFences();
        due("thaw(99)", x.thaw(99), NOT);
        due("thaw(100)", x.thaw(100), OUTSIDE);
    }

    private static void shout() {
        promise = 14;
        CrowFences x = made("w1 0 0;p0 3;c2 4;c9 9;");
        due("shout(-1)", x.shout(-1), UNKNOWN);
        due("shout(2)", x.shout(2), UNKNOWN);
        due("shout(0)", x.shout(0), 1);
        due("worth(0, 0)", x.worth(0, 0), 13);
        due("shout(0)", x.shout(0), 0);
        due("shout(0) of 0", x.shout(0), 0);
        due("told(14)", x.told(14), 3);
        due("crow(0, 0)", x.crow(0, 0), 0);
        due("crow(1, 0)", x.crow(1, 0), 9);
        due("let(0, 0)", x.let(0, 0), 12);
    }

    private static void drift() {
        promise = 15;
        CrowFences x = made(SMALL);
        due("drift(0)", x.drift(0), OUTSIDE);
        due("drift(61)", x.drift(61), OUTSIDE);
        due("seed(0) as it was", x.seed(0), 0);
        // From 0 the seed becomes 12345, then 1406932606: draws of 0 and 7, left by 9.
        due("drift(1)", x.drift(1), 7 + 6 + 5 + 3);
        dueSnow(x, 7, 6, 5, 3);
        due("told(9)", x.told(9), 0);
        due("seed(5)", x.seed(5), 1406932606);
        x.seed(1406932606);
        x.let(1, 0);
        // Then 654583775 and 1449466924: 9988 draws 13, right by 4, and 22117 draws 7.
        due("drift(1)", x.drift(1), 21 + 3 + 5 + 13 + 3);
        dueSnow(x, 7 + 3, 6 + 5, 5 + 13, 3 + 3);
        due("told(5)", x.told(5), 2);
        due("told(14)", x.told(14), 3);
        due("seed(0)", x.seed(0), 1449466924);
        x = made(SMALL);
        due("drift(2) as twice one", x.drift(2), 21 + 3 + 5 + 6 + 7);
        due("told(5)", x.told(5), 2);
        due("told(14)", x.told(14), 1);
        due("hour(1) of the third wind", x.hour(1) - 42, 2 + 3 + 3 + 4);
        drawnOneByOne();
        x = new CrowFences();
        due("drift(61)", x.drift(61), OUTSIDE);
        due("drift(60)", x.drift(60), NOT);
        due("seed(0)", x.seed(0), 0);
    }

    /** One cell without a fence has half of what falls, all in a calm. */
    private static void drawnOneByOne() {
        CrowFences x = made("w1 9 0;");
        long seed = 20261118;
        x.seed((int) seed);
        int lies = 0;
        for (int k = 0; k < 100; k++) {
            seed = (seed * 1103515245L + 12345L) % 2147483648L;
            long strong = seed / 65536 % 19;
            seed = (seed * 1103515245L + 12345L) % 2147483648L;
            long fall = seed / 65536 % 11;
            lies += (int) (strong == 9 ? fall : fall / 2);
            due("drift(1)", x.drift(1), lies);
        }
        due("told(5)", x.told(5), 100);
        due("seed(20261118)", x.seed(20261118), (int) seed);
        feedAll(x, "w1 9 0;");
        x.plateau();
        x.drift(60);
        due("drift(40)", x.drift(40), lies);
        due("seed(0)", x.seed(0), (int) seed);
    }

    private static void undo() {
        promise = 16;
        CrowFences x = made("w3 9 0;p1 1;c99 0;h9 1;");
        due("undo()", x.undo(), NOT);
        for (int k = 1; k <= 25; k++) {
            x.hour(1);
            due("told(14)", x.told(14), Math.min(20, k));
        }
        for (int k = 19; k >= 0; k--) {
            due("undo()", x.undo(), k);
            due("told(5)", x.told(5), 5 + k);
            dueSnow(x, 5 + k, 5 + k, 5 + k);
        }
        due("undo()", x.undo(), NOT);
        due("told(5)", x.told(5), 5);
        for (int k = 1; k <= 30; k++) {
            x.shout(0);
        }
        due("undo()", x.undo(), 19);
        due("crow(0, 0)", x.crow(0, 0), 70);
        x.thaw(1);
        due("told(14)", x.told(14), 20);
        x.thaw(99);
        x.thaw(0);
        x.hour(61);
        x.giveUp(0);
        x.let(0, 1);
        x.move(1, true);
        x.shout(1);
        x.drift(61);
        due("undo() past what was refused", x.undo(), 19);
        due("told(11)", x.told(11), 12);
        due("undo()", x.undo(), 18);
        due("told(11)", x.told(11), 15);
        due("crow(0, 0)", x.crow(0, 0), 70);
    }

    private static void undoBringsAllBack() {
        promise = 16;
        CrowFences x = made(SMALL);
        x.let(0, 1);
        x.hour(1);
        int[] ahead = image(x);
        x.hour(2);
        x.undo();
        dueImage("hour", x, ahead);
        x.let(1, 0);
        x.undo();
        dueImage("let", x, ahead);
        x.giveUp(0);
        x.undo();
        dueImage("giveUp", x, ahead);
        x.move(1, true);
        x.undo();
        dueImage("move", x, ahead);
        x.thaw(3);
        x.undo();
        dueImage("thaw", x, ahead);
        x.shout(0);
        x.undo();
        dueImage("shout", x, ahead);
        x.seed(9);
        x.drift(3);
        x.see(0, 0);
        x.write(1, 1);
        int drawn = x.seed(4);
        x.seed(drawn);
        x.undo();
        dueImage("drift", x, ahead);
        due("the seed stays", x.seed(0) == drawn && drawn != 9 ? 1 : 0, 1);
        due("told(12) stays", x.told(12), 1);
        due("told(13) stays", x.told(13), 1);
    }

    /** All of section 2, as far as it can be asked. */
    private static int[] image(CrowFences x) {
        int[] row = new int[9 + 2 * 4 + 2 * 4];
        int[] whats = {5, 6, 8, 9, 10};
        int at = 0;
        for (int what : whats) {
            row[at++] = x.told(what);
        }
        for (int a = 0; a < 4; a++) {
            row[at++] = x.snow(a);
        }
        for (int k = 0; k < 2; k++) {
            for (int what = 0; what < 4; what++) {
                row[at++] = x.post(k, what);
                row[at++] = x.crow(k, what);
            }
        }
        return row;
    }

    private static void dueImage(String of, CrowFences x, int[] want) {
        int[] got = image(x);
        for (int k = 0; k < want.length; k++) {
            due("image " + k + " behind " + of, got[k], want[k]);
        }
    }

    private static void lies() {
        promise = 17;
        CrowFences x = made(SMALL);
        due("lies(0, 0)", x.lies(0, 0), 0);
        due("lies(0, 1)", x.lies(0, 1), 4);
        due("lies(3, 2)", x.lies(3, 2), 12);
        due("lies(2, 3)", x.lies(2, 3), 15);
        due("lies(3, 40)", x.lies(3, 40), 14 * 13 + 7);
        dueTold(x, 4, 2, 2, 3, 0, 0, 0, 10, 10, 3, 0, 0, 0, 0, 0);
        x.hour(1);
        due("lies(2, 0)", x.lies(2, 0), 7);
        due("lies(2, 1) from now", x.lies(2, 1), 12);
        due("lies(4, 0)", x.lies(4, 0), UNKNOWN);
        due("lies(-1, 41)", x.lies(-1, 41), UNKNOWN);
        due("lies(0, -1)", x.lies(0, -1), OUTSIDE);
        due("lies(0, 41)", x.lies(0, 41), OUTSIDE);
    }

    private static void open() {
        promise = 18;
        CrowFences x = made(SMALL);
        due("open(0)", x.open(0), 1);
        due("open(1)", x.open(1), 1);
        due("open(2)", x.open(2), 0);
        due("open(40)", x.open(40), 0);
        due("open(-1)", x.open(-1), OUTSIDE);
        due("open(41)", x.open(41), OUTSIDE);
        x.let(1, 0);
        due("open(1)", x.open(1), 1);
        due("open(2): only one of the road is", x.open(2), 0);
        x.hour(2);
        due("open(0)", x.open(0), 0);
        due("told(14)", x.told(14), 2);
        x = made("w2 0 5;r1;h9 1;");
        due("open(5)", x.open(5), 1);
        due("open(6)", x.open(6), 0);
        x = made("w2 0 0;h9 30;");
        due("open(40) without a road", x.open(40), 1);
        due("open(41) without a road", x.open(41), OUTSIDE);
    }

    private static void worth() {
        promise = 19;
        CrowFences x = made(SMALL);
        due("worth(0, 0)", x.worth(0, 0), 13);
        due("worth(1, 0)", x.worth(1, 0), 17);
        due("worth(0, 1)", x.worth(0, 1), 3);
        due("worth(1, 1)", x.worth(1, 1), 5);
        x.let(1, 0);
        x.shout(0);
        x.shout(1);
        due("worth(1, 0) though let", x.worth(1, 0), 16);
        due("worth(1, 1)", x.worth(1, 1), 5);
        due("worth(2, 0)", x.worth(2, 0), UNKNOWN);
        due("worth(0, 2)", x.worth(0, 2), UNKNOWN);
        due("worth(-1, 0)", x.worth(-1, 0), UNKNOWN);
        due("worth(0, -1)", x.worth(0, -1), UNKNOWN);
    }

    private static void lets() {
        promise = 20;
        CrowFences x = made(SMALL);
        due("lets(1, NONE)", x.lets(1, NONE), 20);
        due("lets(1, 0)", x.lets(1, 0), 1);
        due("lets(1, 1)", x.lets(1, 1), 0);
        due("lets(2, NONE)", x.lets(2, NONE), 17 + 3);
        due("lets(3, NONE): no way", x.lets(3, NONE), NONE);
        due("lets(3, 0)", x.lets(3, 0), NONE);
        due("lets(0, NONE)", x.lets(0, NONE), OUTSIDE);
        due("lets(41, NONE)", x.lets(41, NONE), OUTSIDE);
        due("lets(40, NONE)", x.lets(40, NONE), NONE);
        due("lets(1, 2)", x.lets(1, 2), UNKNOWN);
        due("lets(1, -2)", x.lets(1, -2), UNKNOWN);
        due("lets(0, 2)", x.lets(0, 2), UNKNOWN);
        due("lets(0, 1)", x.lets(0, 1), OUTSIDE);
        // Anew: who has a post now, and which fences are down, is no matter; nothing changes.
        x.let(0, 0);
        due("lets(1, NONE)", x.lets(1, NONE), 20);
        due("lets(1, 0)", x.lets(1, 0), 1);
        due("post(0, 2)", x.post(0, 2), 0);
        x.shout(0);
        due("lets(1, NONE)", x.lets(1, NONE), 19);
        due("told(14)", x.told(14), 2);

        // A fence on the road keeps all of the snow there: it must be down, though a crow bids for it.
        x = made("w3 0 9;r1;p1 9;p0 1;c9 9;c5 0;h10 10;");
        due("lets(1, NONE)", x.lets(1, NONE), 9 + 9);
        due("lets(1, 0)", x.lets(1, 0), NONE);
        due("lets(1, 1)", x.lets(1, 1), 0);
        due("lets(2, NONE)", x.lets(2, NONE), NONE);

        // All fences stand at first: below B they need nobody, though they're down now.
        x = made("w3 5 9;r1;p0 1;c9 9;h10 10;h18 0;");
        x.hour(2);
        x.thaw(99);
        due("told(9)", x.told(9), 0);
        due("open(1)", x.open(1), 1);
        due("open(3)", x.open(3), 0);
        due("lets(1, NONE)", x.lets(1, NONE), 18);
        x = made("w3 5 9;r1;p0 1;h10 10;h18 0;");
        x.hour(2);
        x.thaw(99);
        x.hour(2);
        x.thaw(3);
        due("told(9)", x.told(9), 0);
        // With the fence standing 5 more come to cell 1, without it 7.
        due("snow(1)", x.snow(1), 4);
        due("open(1)", x.open(1), 0);
        due("lets(1, NONE)", x.lets(1, NONE), 0);
        due("fewest(1)", x.fewest(1), 0);
        x = made("w2 0 0;r0;h9 1;");
        due("lets(1, NONE) without posts", x.lets(1, NONE), NONE);
        x = made("w2 0 1;r0;p1 1;h9 1;");
        due("lets(2, NONE)", x.lets(2, NONE), NONE);
        due("lets(1, NONE) behind one that found none", x.lets(1, NONE), 0);
        x = made("w2 0 1;r0;p0 1;h9 1;");
        due("lets(1, NONE) without crows", x.lets(1, NONE), 0);
        due("lets(1, 0) without crows", x.lets(1, 0), NONE);
    }

    private static void letsOfLikeOnes() {
        promise = 20;
        CrowFences x = made("w3 0 0;p0 2;p1 2;p2 2;c5 1;c5 1;");
        due("lets(1, NONE)", x.lets(1, NONE), 14);
        due("lets(1, 0)", x.lets(1, 0), 0);
        due("lets(1, 1)", x.lets(1, 1), 1);
        due("lets(1, 2)", x.lets(1, 2), NONE);
        x = made("w3 0 0;p0 0;p1 0;p2 0;c0 1;c0 9;c7 0;c0 0;c0 2;");
        due("lets(1, NONE)", x.lets(1, NONE), 7);
        due("lets(1, 0)", x.lets(1, 0), 0);
        due("lets(1, 1)", x.lets(1, 1), 1);
        due("lets(1, 2)", x.lets(1, 2), 2);
        x = made("w4 0 0;p0 0;p1 5;c0 0;");
        due("lets(1, 0): a crow that bids nothing ahead of nobody", x.lets(1, 0), 0);
        due("lets(1, 1)", x.lets(1, 1), NONE);
    }

    private static void fewest() {
        promise = 21;
        CrowFences x = made(SMALL);
        due("fewest(0)", x.fewest(0), OUTSIDE);
        due("fewest(41)", x.fewest(41), OUTSIDE);
        due("fewest(-1)", x.fewest(-1), OUTSIDE);
        due("fewest(1)", x.fewest(1), 0);
        due("fewest(2)", x.fewest(2), 1 | 2);
        due("fewest(3)", x.fewest(3), NONE);
        due("fewest(40)", x.fewest(40), NONE);
        due("told(10)", x.told(10), 0);
        // One is enough: the least of those that do. Without crows too.
        x = made("w5 0 12;r4;p1 0;p3 0;p2 0;h18 10;");
        due("fewest(1)", x.fewest(1), 0);
        due("fewest(2)", x.fewest(2), 2);
        due("fewest(3)", x.fewest(3), NONE);
        x = made("w5 0 6;r4;p3 0;p2 0;p1 0;p0 0;h18 10;");
        due("fewest(1)", x.fewest(1), 1);
        x = made("w5 0 7;r4;p0 0;p2 0;p3 0;h18 10;");
        due("fewest(1)", x.fewest(1), 2);
        x = made("w2 0 0;r0;h9 1;");
        due("fewest(1) without posts", x.fewest(1), NONE);
        // Two are less than one of a higher number only by their count.
        x = made("w6 0 5;r5;p0 0;p1 0;p2 0;p4 0;h18 10;");
        due("fewest(1)", x.fewest(1), 8);
    }

    private static void yard() {
        promise = 22;
        CrowFences x = made(SMALL);
        x.let(1, 0);
        // In cell 2: 4 6 14 4; in cell 3: 4 6 7 15.
        due("yard(1, 2, 1)", x.yard(1, 2, 1), 10000 - 7);
        due("yard(1, 3, 1)", x.yard(1, 3, 1), 10000 + 11);
        due("yard(1, 0, 1)", x.yard(1, 0, 1), 10000);
        due("yard(1, 3, 0)", x.yard(1, 3, 0), 10000);
        due("post(1, 0)", x.post(1, 0), 2);
        due("told(14)", x.told(14), 1);
        due("yard(2, 0, 1)", x.yard(2, 0, 1), UNKNOWN);
        due("yard(-1, 0, 1)", x.yard(-1, 0, 1), UNKNOWN);
        due("yard(1, 4, 1)", x.yard(1, 4, 1), UNKNOWN);
        due("yard(1, -1, 41)", x.yard(1, -1, 41), UNKNOWN);
        due("yard(1, 0, 41)", x.yard(1, 0, 41), OUTSIDE);
        due("yard(1, 0, -1)", x.yard(1, 0, -1), OUTSIDE);
        x.move(1, true);
        due("yard(1, 0, 1) at the end", x.yard(1, 0, 1), NONE);
        due("yard(1, 0, 41) at the end", x.yard(1, 0, 41), OUTSIDE);
        x.move(1, false);
        x.move(1, false);
        due("yard(0, 0, 1) onto a post", x.yard(0, 0, 1), NONE);
        // In 14 hours that blow right cell 1 gets 12 with the fence, 6 with it in cell 2; in 13 to the left 7 or 2.
        due("yard(1, 1, 40)", x.yard(1, 1, 40), 10000 + 14 * (6 - 12) + 13 * (2 - 7));
    }

    private static void out() {
        promise = 23;
        CrowFences x = made(SMALL);
        due("out(0, 1)", x.out(0, 1), 0);
        x.hour(1);
        due("out(0, 1)", x.out(0, 1), 4);
        due("out(2, 3)", x.out(2, 3), 3);
        due("out(1, 3)", x.out(1, 3), 2);
        due("out(1, 99)", x.out(1, 99), 1);
        due("out(1, 0)", x.out(1, 0), OUTSIDE);
        due("out(1, 100)", x.out(1, 100), OUTSIDE);
        due("out(4, 1)", x.out(4, 1), UNKNOWN);
        due("out(-1, 0)", x.out(-1, 0), UNKNOWN);
        x = made("w1 0 0;p0 0;c0 0;h18 30;");
        x.let(0, 0);
        for (int k = 0; k < 6; k++) {
            x.hour(60);
        }
        due("out(0, 1)", x.out(0, 1), 9999);
        due("out(0, 98)", x.out(0, 98), 103);
        due("out(0, 99)", x.out(0, 99), 101);
    }

    private static void still() {
        promise = 24;
        CrowFences x = new CrowFences();
        due("still(0, 0)", x.still(0, 0), 1000000000);
        due("still(0, 100)", x.still(0, 100), 1000000000);
        due("still(60, 0)", x.still(60, 0), 1000000000);
        due("still(1, 100)", x.still(1, 100), 0);
        due("still(60, 100)", x.still(60, 100), 0);
        due("still(5, 10)", x.still(5, 10), 590490000);
        // Cut each night: 10 000 000, .., 10, 0 by 99; 33 of a hundred stay: 1291467969, cut from the sixth on.
        due("still(4, 99)", x.still(4, 99), 10);
        due("still(5, 99)", x.still(5, 99), 0);
        due("still(6, 67)", x.still(6, 67), 1291467);
        due("still(7, 67)", x.still(7, 67), 426184);
        due("still(-1, 0)", x.still(-1, 0), OUTSIDE);
        due("still(61, 0)", x.still(61, 0), OUTSIDE);
        due("still(0, -1)", x.still(0, -1), OUTSIDE);
        due("still(0, 101)", x.still(0, 101), OUTSIDE);
    }

    private static void see() {
        promise = 25;
        CrowFences x = made(SMALL);
        due("see(2, 0)", x.see(2, 0), UNKNOWN);
        due("see(0, 2)", x.see(0, 2), UNKNOWN);
        due("see(-1, 0)", x.see(-1, 0), UNKNOWN);
        due("see(0, -1)", x.see(0, -1), UNKNOWN);
        for (int k = 1; k <= 6; k++) {
            due("see(0, 1)", x.see(0, 1), k);
        }
        due("see(0, 1)", x.see(0, 1), FULL);
        due("see(2, 1)", x.see(2, 1), UNKNOWN);
        due("told(12)", x.told(12), 6);
        due("told(14)", x.told(14), 0);
    }

    private static void sublets() {
        promise = 26;
        CrowFences x = made("w6 0 0;p0 0;p1 0;p2 0;c0 0;c0 0;c0 0;");
        due("sublets(-1)", x.sublets(-1), OUTSIDE);
        due("sublets(2)", x.sublets(2), OUTSIDE);
        x.let(0, 1);
        x.let(1, 2);
        due("sublets(0) of nobody seen", x.sublets(0), 0);
        x.see(1, 0);
        due("sublets(0) of one at home", x.sublets(0), 0);
        due("sublets(1)", x.sublets(1), 0);
        x.see(0, 0);
        due("sublets(0): another one, but they too", x.sublets(0), 0);
        due("sublets(1)", x.sublets(1), 1);
        x.see(1, 1);
        due("sublets(0)", x.sublets(0), 4);
        due("sublets(1)", x.sublets(1), 3);
        x.see(2, 2);
        due("sublets(1) of a post let to nobody", x.sublets(1), 3);
        due("sublets(0) though seen elsewhere", x.sublets(0), 4);
        x.giveUp(1);
        due("sublets(0) as it is let now", x.sublets(0), 0);
        due("sublets(1)", x.sublets(1), 1);
        x.undo();
        x.tear();
        due("sublets(0)", x.sublets(0), 0);
        due("sublets(1)", x.sublets(1), 0);
        x.see(2, 0);
        due("sublets(0) of the first post", x.sublets(0), 2);
        due("sublets(1) of the first seen", x.sublets(1), 4);
    }

    private static void fit() {
        promise = 27;
        CrowFences x = made("w6 0 0;p0 0;p1 0;p2 0;c0 0;c0 0;");
        due("fit(-1)", x.fit(-1), OUTSIDE);
        due("fit(2)", x.fit(2), OUTSIDE);
        due("fit(0)", x.fit(0), 1 + 6 + 6);
        x.let(0, 0);
        due("fit(0) whoever is let", x.fit(0), 13);
        x.see(0, 1);
        due("fit(0): post 1 to either", x.fit(0), 2 * 3);
        x.see(1, 2);
        due("fit(0): both have theirs", x.fit(0), 1);
        x.see(0, 2);
        due("fit(0): crow 1 can have post 2 alone", x.fit(0), 1);
        x.see(1, 1);
        due("fit(0): either way", x.fit(0), 2);
        x.see(1, 0);
        due("fit(0): three posts, two crows", x.fit(0), 0);
        due("fit(1)", x.fit(1), NONE);
        x = made("w6 0 0;p0 0;p1 0;p2 0;p3 0;p4 0;p5 0;c0 0;c0 0;c0 0;c0 0;c0 0;");
        due("fit(0)", x.fit(0), 4051);
        x.see(4, 5);
        due("fit(0)", x.fit(0), 5 * 501);
        due("fit(1)", x.fit(1), 0);
        x = made("w6 0 0;p0 0;p1 0;c0 0;c0 0;");
        x.see(0, 0);
        x.see(1, 0);
        due("fit(0): post 0 to either", x.fit(0), 4);
        x.tear();
        due("fit(0) of what was torn", x.fit(0), 7);
        x.see(0, 1);
        due("fit(0): post 1 to either", x.fit(0), 4);
        x = made("w2 0 0;c0 0;");
        due("fit(0) without posts", x.fit(0), 1);
        due("fit(1) without posts", x.fit(1), NONE);
        x = made("w2 0 0;p0 0;p1 0;");
        due("fit(0) without crows", x.fit(0), 1);
        due("fit(1) without crows", x.fit(1), 0);
    }

    private static void look() {
        promise = 27;
        CrowFences x = made("w6 0 0;p0 0;p1 0;p2 0;c0 0;c0 0;c0 0;");
        due("fit(1)", x.fit(1), 0);
        x.see(0, 0);
        due("fit(1): nobody counts as one", x.fit(1), 1);
        x.see(1, 1);
        due("fit(1)", x.fit(1), 2);
        x.see(2, 2);
        due("fit(1): each can be let to one", x.fit(1), 0);
        x.see(2, 1);
        // Post 2 must be let to crow 2, so that post 1 can be to crow 1 alone.
        due("fit(1): by those that fit", x.fit(1), 0);
        x.see(1, 2);
        due("fit(1)", x.fit(1), 1);
        due("fit(0)", x.fit(0), 2);
    }

    private static void write() {
        promise = 28;
        CrowFences x = made(SMALL);
        due("write(4, 0)", x.write(4, 0), UNKNOWN);
        due("write(-1, -1)", x.write(-1, -1), UNKNOWN);
        due("write(0, -1)", x.write(0, -1), OUTSIDE);
        due("write(0, 10000)", x.write(0, 10000), OUTSIDE);
        due("write(3, 9999)", x.write(3, 9999), 1);
        due("write(3, 0)", x.write(3, 0), 2);
        for (int k = 3; k <= 15; k++) {
            due("write(0, 0)", x.write(0, 0), k);
        }
        due("write(0, 0)", x.write(0, 0), FULL);
        due("write(0, 10000)", x.write(0, 10000), OUTSIDE);
        due("write(4, 10000)", x.write(4, 10000), UNKNOWN);
        due("told(13)", x.told(13), 15);
    }

    private static void tear() {
        promise = 29;
        CrowFences x = made(SMALL);
        due("tear()", x.tear(), 0);
        x.see(0, 0);
        x.see(1, 0);
        x.write(0, 1);
        x.hour(1);
        due("tear()", x.tear(), 3);
        due("told(12)", x.told(12), 0);
        due("told(13)", x.told(13), 0);
        due("told(14)", x.told(14), 1);
        due("judge()", x.judge(), NONE);
        due("fit(0)", x.fit(0), 1 + 4 + 2);
        due("tear()", x.tear(), 0);
        due("see(0, 0)", x.see(0, 0), 1);
        due("write(0, 0)", x.write(0, 0), 1);
    }

    private static void judge() {
        promise = 30;
        CrowFences x = made(SMALL);
        due("judge()", x.judge(), NONE);
        x.write(0, 0);
        x.write(1, 6);
        x.write(0, 4);
        due("judge()", x.judge(), 1);
        x.hour(1);
        due("judge()", x.judge(), 0);
        x.tear();
        x.write(0, 4);
        x.write(1, 6);
        x.write(3, 7);
        due("judge()", x.judge(), NONE);
        x.write(2, 6);
        due("judge()", x.judge(), 3);
        x.undo();
        due("judge()", x.judge(), 0);
    }

    private static void seed() {
        promise = 31;
        CrowFences x = new CrowFences();
        due("seed(-1)", x.seed(-1), OUTSIDE);
        due("seed(MIN)", x.seed(Integer.MIN_VALUE), OUTSIDE);
        due("seed(MAX)", x.seed(2147483647), 0);
        due("seed(-1)", x.seed(-1), OUTSIDE);
        due("seed(3)", x.seed(3), 2147483647);
        due("seed(0)", x.seed(0), 3);
        feedAll(x, "w1 0 0;");
        x.seed(2147483647);
        due("plateau()", x.plateau(), 1);
        // 2 to the 31 less 1 becomes 2 to the 31 less 1103515245 and 12345 more, 1043980748, by the first draw.
        x.drift(1);
        due("seed(0)", x.seed(0), (int) ((1043980748L * 1103515245L + 12345L) % 2147483648L));
    }

    private static void keep() {
        promise = 32;
        CrowFences x = made(SMALL);
        due("keep(-1)", x.keep(-1), UNKNOWN);
        due("keep(2)", x.keep(2), UNKNOWN);
        x.hour(1);
        due("keep(2)", x.keep(2), UNKNOWN);
        due("told(14) though refused", x.told(14), 1);
        due("keep(0)", x.keep(0), 1);
        due("told(14)", x.told(14), 0);
        due("undo()", x.undo(), NOT);
        due("told(11)", x.told(11), 24);
        x.hour(1);
        due("keep(1)", x.keep(1), 1);
        x.hour(1);
        x.goBack(0);
        due("told(11)", x.told(11), 24);
        x.goBack(1);
        due("told(11)", x.told(11), 44);
        x.hour(1);
        due("keep(1) again", x.keep(1), 1);
        x.goBack(0);
        x.goBack(1);
        due("told(11)", x.told(11), 56);
    }

    private static void goBack() {
        promise = 33;
        CrowFences x = made(SMALL);
        due("goBack(-1)", x.goBack(-1), UNKNOWN);
        due("goBack(2)", x.goBack(2), UNKNOWN);
        due("goBack(0)", x.goBack(0), NOT);
        due("goBack(1)", x.goBack(1), NOT);
        x.let(0, 1);
        x.shout(0);
        x.move(1, true);
        x.hour(1);
        x.seed(5);
        x.keep(1);
        int[] ahead = image(x);
        due("goBack(0)", x.goBack(0), NOT);
        x.giveUp(0);
        x.let(1, 0);
        x.let(0, 1);
        x.shout(0);
        x.move(1, false);
        x.thaw(2);
        x.drift(7);
        x.see(0, 0);
        x.write(0, 0);
        due("goBack(0)", x.goBack(0), NOT);
        due("told(14) though refused", x.told(14), 7);
        due("goBack(1)", x.goBack(1), 1);
        dueImage("goBack", x, ahead);
        due("told(14)", x.told(14), 0);
        due("undo()", x.undo(), NOT);
        due("told(12) stays", x.told(12), 1);
        due("told(13) stays", x.told(13), 1);
        due("seed(6)", x.seed(6), 5);
        x.hour(1);
        due("goBack(1) again", x.goBack(1), 1);
        dueImage("goBack again", x, ahead);
        due("seed(0)", x.seed(0), 5);
    }
}
