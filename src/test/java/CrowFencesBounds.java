/**
 * The bounds of sections 2 and 3 and of the promises, sentence by sentence: the last value that is still taken and the
 * first that is not, what is empty, what is full and one more, what wraps around.
 */
public final class CrowFencesBounds {
    private static final int NONE = -1, UNKNOWN = -1000000001, OUTSIDE = -1000000002, NOT = -1000000003, FULL = -1000000004;

    /** One cell, in which each hour 1 of snow falls without wind: as much lies as hours went by. */
    private static final String CALM = "w1 0 5;r0;p0 2;c3 4;h9 1;";
    private static final String LARGEST = "w12 0 0;r0;r1;r2;r3;r4;r5;r6;r7;r8;r9;r10;r11;p0 0;p1 0;p2 0;p3 0;p4 0;p5 0;"
            + "c0 0;c1 0;c2 0;c3 0;c4 0;";

    private static String sentence = "";
    private static int asked = 0;
    private static int wrong = 0;

    public static void main(String[] args) {
        whatAnHourIs();
        whatIsDone();
        whatIsTried();
        whatIsSeen();
        drawsUndoneImages();
        System.out.println(wrong == 0 ? asked + " answers at bounds are as due" : wrong + " answers are not as due");
        if (wrong != 0) {
            System.exit(1);
        }
    }

    private static void whatAnHourIs() {
        windsAgainAndAgain();
        windsAreCountedFromHour0();
        noWinds();
        strongerThanB();
        downUntilLet();
        halfOfItCut();
        calmHours();
        snowIs9999AtMost();
        nineThousandNineHundredNinetyNineByWind();
    }

    private static void whatIsDone() {
        toldOf();
        setsOfAll();
        numbersOfThings();
        hoursFrom1To60();
        hoursAbove9000();
        driftAbove9000();
        letAndPaid();
        spoonsAre999999AtMost();
        movedToTheEnds();
        thawFrom1To99();
        thawTo0();
        shoutedTo0();
    }

    private static void whatIsTried() {
        liesFrom0To40();
        openFrom0To40();
        openWithDOrLess();
        roadWithoutCells();
        letsFrom1To40();
        letsNone();
        letsOfNobody();
        letsOfAllPosts();
        letsAnew();
        fewestFrom1To40();
        fewestFromNoneToAll();
        yardFrom0To40();
        yardThatCannotBe();
        yardBothWays();
        outFrom0To9999();
        stillFrom0To60();
        stillCutEachNight();
    }

    private static void whatIsSeen() {
        sixSits();
        subletsOfNoneAndAll();
        fitFromNoneToAll();
        lookOfLikeOnes();
        fifteenEntries();
        entriesFrom0To9999();
        wrongTheFirst();
        tornIsEmpty();
    }

    private static void drawsUndoneImages() {
        seedFrom0();
        leftOverBy2ToThe31();
        drawsAtTheirEnds();
        twentyAreKept();
        eachKindIsUndone();
        undoneAndDoneAgain();
        imagesNotKept();
        imagesKeepAll();
        nothingUndoneBehindImages();
        plateauBeginsAnew();
    }

    // ---- how tests ask

    private static void due(String call, int got, int want) {
        asked++;
        if (got != want) {
            wrong++;
            System.out.println(sentence + ": " + call + " answered " + got + ", due is " + want);
        }
    }

    private static void dueSnow(CrowFences x, int... wants) {
        for (int a = 0; a < wants.length; a++) {
            due("snow(" + a + ")", x.snow(a), wants[a]);
        }
    }

    private static void tell(CrowFences x, String text) {
        for (int i = 0; i < text.length(); i++) {
            x.feed(text.charAt(i));
        }
        int cells = x.plateau();
        due("plateau() of '" + text + "'", cells < 0 ? cells : 0, 0);
    }

    private static CrowFences made(String text) {
        CrowFences x = new CrowFences();
        tell(x, text);
        return x;
    }

    private static void passHours(CrowFences x, int n) {
        for (int left = n; left > 0; left -= 60) {
            x.hour(Math.min(60, left));
        }
    }

    // ---- an hour

    private static void windsAgainAndAgain() {
        sentence = "HOUR k has the one of THE WINDS of k left over by how many";
        String text = "w1 0 0;";
        for (int winds = 1; winds <= 10; winds++) {
            text += "h9 " + winds + ";";
            CrowFences x = made(text);
            int lies = 0;
            for (int k = 0; k < 25; k++) {
                lies += k % winds + 1;
                due("lies(0, 1) of " + winds + " at " + k, x.lies(0, 1), lies);
                due("hour(1) of " + winds + " at " + k, x.hour(1), lies);
            }
            int on = lies;
            for (int k = 25; k < 65; k++) {
                on += k % winds + 1;
            }
            due("lies(0, 40) of " + winds, x.lies(0, 40), on);
            due("hour(40) of " + winds, x.hour(40), on);
        }
    }

    private static void windsAreCountedFromHour0() {
        sentence = "HOURS are counted from 0, those by draws too";
        CrowFences x = made("w1 0 0;h9 1;h9 5;h9 25;");
        due("told(5)", x.told(5), 0);
        int lies = x.drift(2);
        due("told(5)", x.told(5), 2);
        due("hour(1) of the third wind", x.hour(1), lies + 25);
        due("undo()", x.undo(), 1);
        due("undo()", x.undo(), 0);
        due("told(5)", x.told(5), 0);
        due("hour(1) of the first wind", x.hour(1), 1);
        x.thaw(99);
        due("told(5): a thaw is no hour", x.told(5), 1);
        due("hour(1) of the second wind", x.hour(1), 5);

        // 9000 left over by 7 is 5: only the sixth of the winds has snow, and 1285 times it blew.
        x = made("w1 0 0;h9 0;h9 0;h9 0;h9 0;h9 0;h9 1;h9 0;");
        passHours(x, 9000);
        due("snow(0)", x.snow(0), 1285);
        due("lies(0, 8)", x.lies(0, 8), 1287);
        due("hour(1)", x.hour(1), 1286);
    }

    private static void noWinds() {
        sentence = "none: no wind, no snow";
        CrowFences x = made("w3 0 0;r0;p0 0;");
        due("hour(60)", x.hour(60), 0);
        due("told(5)", x.told(5), 60);
        due("told(9)", x.told(9), 1);
        due("lies(2, 40)", x.lies(2, 40), 0);
        due("open(40)", x.open(40), 1);
        due("yard(0, 0, 40)", x.yard(0, 0, 40), 10000);
    }

    /** Each B and each S: a fence in a row of one keeps all of 4 if it stands, half of it if it is down. */
    private static void strongerThanB() {
        for (int b = 0; b <= 9; b++) {
            for (int s = 0; s <= 18; s++) {
                sentence = "down, if the wind is stronger than B: " + s + " of " + b;
                int wind = Math.abs(s - 9);
                String text = "w1 " + b + " 0;p0 0;c0 0;h" + s + " 4;";
                CrowFences x = made(text);
                due("hour(1)", x.hour(1), wind == 0 || wind <= b ? 4 : 2);
                due("post(0, 3)", x.post(0, 3), wind <= b ? 1 : 0);
                x = made(text);
                x.let(0, 0);
                due("hour(1) if it is LET", x.hour(1), 4);
                due("post(0, 3) if it is LET", x.post(0, 3), 1);
            }
        }
    }

    private static void downUntilLet() {
        sentence = "its fence STANDS (all do at first), or is down; LET: it STANDS again";
        CrowFences x = made("w1 0 0;p0 0;c0 0;h10 4;h9 4;");
        due("told(9)", x.told(9), 1);
        x.hour(1);
        due("told(9)", x.told(9), 0);
        x.hour(1);
        due("told(9) behind a calm", x.told(9), 0);
        x.let(0, 0);
        due("told(9) LET", x.told(9), 1);
        x.hour(1);
        due("told(9) LET, by the wind", x.told(9), 1);
        x.giveUp(0);
        due("told(9) GIVEN UP", x.told(9), 1);
        x.hour(1);
        due("told(9) GIVEN UP, in a calm", x.told(9), 1);
        x.hour(1);
        due("told(9) GIVEN UP, by the wind", x.told(9), 0);
    }

    private static void halfOfItCut() {
        sentence = "another one half of it (cut); what the last one does not keep is gone";
        CrowFences x = made("w12 0 0;h18 10;h0 10;");
        due("hour(1)", x.hour(1), 5 + 7 + 9 + 9 + 8 * 10);
        dueSnow(x, 5, 7, 9, 9, 10, 10, 10, 10, 10, 10, 10, 10);
        due("hour(1)", x.hour(1), 2 * 110);
        dueSnow(x, 15, 17, 19, 19, 20, 20, 20, 20, 19, 19, 17, 15);
        due("of one cell", made("w1 0 0;h18 1;").hour(1), 0);
        due("of one cell", made("w1 0 0;h0 1;").hour(1), 0);
        due("of one cell", made("w1 0 0;h18 2;").hour(1), 1);
        due("of one cell", made("w1 0 0;h18 3;").hour(1), 1);
        due("of one cell", made("w1 0 0;h18 0;").hour(1), 0);
        due("of two cells", made("w2 0 0;h18 1;").hour(1), 1);

        sentence = "a CELL with a fence that STANDS keeps all of that";
        x = made("w4 9 0;p0 0;p3 0;h18 10;h0 10;");
        x.hour(1);
        dueSnow(x, 10, 5, 7, 18);
        x.hour(1);
        dueSnow(x, 10 + 18, 5 + 7, 7 + 5, 18 + 10);
    }

    private static void calmHours() {
        sentence = "without wind, each CELL has I SNOW more";
        CrowFences x = made("w3 0 0;p1 0;h9 30;h9 0;");
        x.hour(1);
        dueSnow(x, 30, 30, 30);
        x.hour(1);
        dueSnow(x, 30, 30, 30);
        due("told(9)", x.told(9), 1);
    }

    private static void snowIs9999AtMost() {
        sentence = "SNOW of a CELL is 9999 at most";
        CrowFences x = made("w12 0 0;h9 9;");
        passHours(x, 1110);
        due("snow(0)", x.snow(0), 9990);
        due("lies(11, 1)", x.lies(11, 1), 9999);
        due("lies(11, 2)", x.lies(11, 2), 9999);
        due("hour(1)", x.hour(1), 12 * 9999);
        due("hour(1)", x.hour(1), 12 * 9999);
        due("hour(60)", x.hour(60), 12 * 9999);
        due("snow(11)", x.snow(11), 9999);
        due("told(11)", x.told(11), 12 * 9999);
        due("thaw(1)", x.thaw(1), 12 * 9998);
        due("hour(1)", x.hour(1), 12 * 9999);

        x = made("w1 0 0;h9 30;");
        passHours(x, 333);
        due("snow(0)", x.snow(0), 9990);
        due("hour(1) over it", x.hour(1), 9999);
    }

    /** What a cell at 9999 cannot take is gone: the one behind it gets no more by it. */
    private static void nineThousandNineHundredNinetyNineByWind() {
        sentence = "SNOW of a CELL is 9999 at most, with wind";
        CrowFences x = made("w2 0 0;p0 0;c0 0;h18 30;");
        x.let(0, 0);
        passHours(x, 333);
        dueSnow(x, 9990, 333 * 15);
        x.hour(1);
        dueSnow(x, 9999, 334 * 15);
        x.hour(1);
        dueSnow(x, 9999, 335 * 15);
        x.giveUp(0);
        x.hour(1);
        dueSnow(x, 9999, 335 * 15 + 22);
        // Without the fence cell 1 keeps half of 45: 9999 behind 226 more.
        passHours(x, 225);
        dueSnow(x, 9999, 335 * 15 + 226 * 22);
        due("335 * 15 + 226 * 22", 335 * 15 + 226 * 22, 9997);
        x.hour(1);
        dueSnow(x, 9999, 9999);
        due("drift(60)", x.drift(60), 2 * 9999);
    }

    // ---- what is so, what is done

    private static void toldOf() {
        sentence = "told: 0 .. 14";
        CrowFences x = made(CALM);
        due("told(-1)", x.told(-1), OUTSIDE);
        due("told(0)", x.told(0), 1);
        x.hour(1);
        due("told(14)", x.told(14), 1);
        due("told(15)", x.told(15), OUTSIDE);

        sentence = "of a POST, of a CROW: 0 .. 3";
        due("post(0, -1)", x.post(0, -1), OUTSIDE);
        due("post(0, 0)", x.post(0, 0), 0);
        due("post(0, 2) of none", x.post(0, 2), NONE);
        due("post(0, 3)", x.post(0, 3), 1);
        due("post(0, 4)", x.post(0, 4), OUTSIDE);
        due("crow(0, -1)", x.crow(0, -1), OUTSIDE);
        due("crow(0, 0)", x.crow(0, 0), 3);
        due("crow(0, 2) of none", x.crow(0, 2), NONE);
        due("crow(0, 3)", x.crow(0, 3), 0);
        due("crow(0, 4)", x.crow(0, 4), OUTSIDE);
    }

    private static void setsOfAll() {
        sentence = "a SET is a whole number, bit k for k";
        CrowFences x = made(LARGEST);
        due("told(7)", x.told(7), 4095);
        due("told(8)", x.told(8), 4095);
        due("told(9)", x.told(9), 63);
        due("told(10)", x.told(10), 0);
        for (int c = 0; c < 5; c++) {
            due("let()", x.let(5 - c, c), c);
        }
        due("told(10)", x.told(10), 62);
        for (int p = 1; p < 6; p++) {
            x.giveUp(p);
            due("told(10)", x.told(10), 62 >> p << p & ~(1 << p));
        }
        x = made("w2 0 0;r1;h9 1;");
        due("told(8)", x.told(8), 2);
        x.hour(1);
        due("told(8) of none", x.told(8), 0);
    }

    private static void numbersOfThings() {
        sentence = "what has a number has it from 0 on, as it comes";
        CrowFences x = made("w12 0 0;p9 1;p3 2;p11 3;p0 4;p5 5;p1 6;c9 1;c8 2;c7 3;c6 4;c5 5;");
        int[] cells = {9, 3, 11, 0, 5, 1};
        for (int p = 0; p < 6; p++) {
            due("post(" + p + ", 0)", x.post(p, 0), cells[p]);
            due("post(" + p + ", 1)", x.post(p, 1), p + 1);
        }
        for (int c = 0; c < 5; c++) {
            due("crow(" + c + ", 0)", x.crow(c, 0), 9 - c);
            due("crow(" + c + ", 1)", x.crow(c, 1), c + 1);
        }
        due("post(-1, 0)", x.post(-1, 0), UNKNOWN);
        due("post(6, 0)", x.post(6, 0), UNKNOWN);
        due("crow(-1, 0)", x.crow(-1, 0), UNKNOWN);
        due("crow(5, 0)", x.crow(5, 0), UNKNOWN);
        due("snow(-1)", x.snow(-1), UNKNOWN);
        due("snow(0)", x.snow(0), 0);
        due("snow(11)", x.snow(11), 0);
        due("snow(12)", x.snow(12), UNKNOWN);
        due("worth(5, 4)", x.worth(5, 4), 5 + 5 * 6);
        due("worth(6, 4)", x.worth(6, 4), UNKNOWN);
        due("worth(5, 5)", x.worth(5, 5), UNKNOWN);

        sentence = "a CELL, POST, CROW that there is not";
        x = made("w1 0 0;");
        due("snow(0)", x.snow(0), 0);
        due("snow(1)", x.snow(1), UNKNOWN);
        due("post(0, 0)", x.post(0, 0), UNKNOWN);
        due("crow(0, 0)", x.crow(0, 0), UNKNOWN);
        due("lies(1, 0)", x.lies(1, 0), UNKNOWN);
        due("out(1, 1)", x.out(1, 1), UNKNOWN);
        due("write(1, 0)", x.write(1, 0), UNKNOWN);
    }

    private static void hoursFrom1To60() {
        sentence = "hour: n HOURS (1 .. 60)";
        CrowFences x = made(CALM);
        due("hour(0)", x.hour(0), OUTSIDE);
        due("hour(-1)", x.hour(-1), OUTSIDE);
        due("told(14)", x.told(14), 0);
        due("hour(1)", x.hour(1), 1);
        due("told(5)", x.told(5), 1);
        due("hour(60)", x.hour(60), 61);
        due("told(5)", x.told(5), 61);
        due("hour(61)", x.hour(61), OUTSIDE);
        due("told(5)", x.told(5), 61);
        due("told(14)", x.told(14), 2);

        sentence = "drift: n HOURS (1 .. 60)";
        x = made("w1 0 0;");
        due("drift(0)", x.drift(0), OUTSIDE);
        due("drift(61)", x.drift(61), OUTSIDE);
        due("told(14)", x.told(14), 0);
        due("seed(0) as it was", x.seed(0), 0);
        due("drift(60) is told as SNOW of all", x.drift(60), x.told(11));
        due("told(5)", x.told(5), 60);
        x.drift(1);
        due("told(5)", x.told(5), 61);
        due("told(14)", x.told(14), 2);

        sentence = "NOT: no PLATEAU";
        x = new CrowFences();
        due("hour(1)", x.hour(1), NOT);
        due("drift(1)", x.drift(1), NOT);
        due("thaw(1)", x.thaw(1), NOT);
        due("hour(61)", x.hour(61), OUTSIDE);
        due("drift(0)", x.drift(0), OUTSIDE);
        due("thaw(0)", x.thaw(0), OUTSIDE);
    }

    private static void hoursAbove9000() {
        sentence = "FULL: HOURS are above 9000";
        CrowFences x = made(CALM);
        passHours(x, 9000);
        due("told(5)", x.told(5), 9000);
        due("hour(0) at 9000", x.hour(0), OUTSIDE);
        due("hour(1) at 9000", x.hour(1), 9001);
        due("hour(1) at 9001", x.hour(1), FULL);
        due("hour(60) at 9001", x.hour(60), FULL);
        due("hour(61) at 9001", x.hour(61), OUTSIDE);
        due("drift(1) at 9001", x.drift(1), FULL);
        due("drift(0) at 9001", x.drift(0), OUTSIDE);
        due("lies(0, 40) at 9001", x.lies(0, 40), 9041);
        due("thaw(1) at 9001", x.thaw(1), 9000);
        x.undo();
        x.undo();
        due("told(5)", x.told(5), 9000);
        due("hour(60) at 9000", x.hour(60), 9060);
        due("told(5)", x.told(5), 9060);
        due("hour(1) at 9060", x.hour(1), FULL);
        due("lies(0, 40) at 9060", x.lies(0, 40), 9100);
        due("lets(40, NONE) at 9060", x.lets(40, NONE), NONE);
        x.undo();
        due("drift(1) at 9000", x.drift(1) >= 9000 ? 1 : 0, 1);
        due("told(5)", x.told(5), 9001);
    }

    private static void driftAbove9000() {
        sentence = "FULL: HOURS are above 9000, by draws";
        CrowFences x = made("w1 0 0;");
        for (int k = 0; k < 149; k++) {
            x.drift(60);
        }
        x.drift(59);
        due("told(5)", x.told(5), 8999);
        x.drift(1);
        due("told(5)", x.told(5), 9000);
        x.drift(60);
        due("told(5)", x.told(5), 9060);
        due("drift(1)", x.drift(1), FULL);
        due("hour(1)", x.hour(1), FULL);
        due("told(5)", x.told(5), 9060);
    }

    private static void letAndPaid() {
        sentence = "LET: SPOONS PAID, from 0 to 180";
        CrowFences x = made("w2 0 0;p0 0;p1 9;c0 9;c99 9;");
        due("let(0, 0)", x.let(0, 0), 0);
        due("told(6)", x.told(6), 0);
        due("let(1, 1)", x.let(1, 1), 180);
        due("told(6)", x.told(6), 180);
        due("crow(1, 3)", x.crow(1, 3), 180);
        due("crow(0, 3)", x.crow(0, 3), 0);

        sentence = "NOT: it is LET, the CROW has one";
        due("let(0, 1): both", x.let(0, 1), NOT);
        x.giveUp(1);
        due("let(0, 1): it is LET", x.let(0, 1), NOT);
        due("let(1, 0): the CROW has one", x.let(1, 0), NOT);
        due("let(0, 2)", x.let(0, 2), UNKNOWN);
        due("let(2, 0)", x.let(2, 0), UNKNOWN);
        due("let(1, 1) again", x.let(1, 1), 180);
        due("told(6)", x.told(6), 360);
        due("crow(1, 3)", x.crow(1, 3), 360);

        sentence = "GIVEN UP: the CROW that had it; NOT: it is LET to nobody";
        due("giveUp(0)", x.giveUp(0), 0);
        due("giveUp(0)", x.giveUp(0), NOT);
        due("giveUp(1)", x.giveUp(1), 1);
        due("giveUp(2)", x.giveUp(2), UNKNOWN);
    }

    /** In 512 calls there cannot be that many: only one that is used for more shows that the sum does not go on. */
    private static void spoonsAre999999AtMost() {
        sentence = "SPOONS, 999999 at most";
        CrowFences x = made("w1 0 0;p0 9;c99 9;c99 0;c1 0;");
        for (int k = 0; k < 5555; k++) {
            x.let(0, 0);
            x.giveUp(0);
        }
        due("told(6)", x.told(6), 999900);
        x.keep(0);
        due("let(0, 1)", x.let(0, 1), 99);
        due("told(6) of as many", x.told(6), 999999);
        x.giveUp(0);
        due("let(0, 2)", x.let(0, 2), 1);
        due("told(6) of one more", x.told(6), 999999);
        due("crow(2, 3)", x.crow(2, 3), 1);
        x.goBack(0);
        due("let(0, 0)", x.let(0, 0), 180);
        due("told(6)", x.told(6), 999999);
        due("crow(0, 3)", x.crow(0, 3), 999999);
        due("undo()", x.undo(), 0);
        due("told(6)", x.told(6), 999900);
    }

    private static void movedToTheEnds() {
        sentence = "NOT: no CELL there";
        CrowFences x = made("w12 0 0;p10 0;p1 0;");
        due("move(0, true)", x.move(0, true), 11);
        due("move(0, true)", x.move(0, true), NOT);
        due("move(1, false)", x.move(1, false), 0);
        due("move(1, false)", x.move(1, false), NOT);
        due("post(0, 0)", x.post(0, 0), 11);
        due("post(1, 0)", x.post(1, 0), 0);
        due("told(14)", x.told(14), 2);
        x = made("w1 0 0;p0 0;");
        due("move(0, true) of one cell", x.move(0, true), NOT);
        due("move(0, false) of one cell", x.move(0, false), NOT);

        sentence = "NOT: a POST is there";
        x = made("w4 0 0;p1 0;p2 0;h18 1;");
        due("move(0, true)", x.move(0, true), NOT);
        due("move(1, false)", x.move(1, false), NOT);
        x.hour(1);
        due("move(0, true): though its fence is down", x.move(0, true), NOT);
        due("move(1, true)", x.move(1, true), 3);
        due("move(0, true)", x.move(0, true), 2);
        due("move(0, true)", x.move(0, true), NOT);
        due("post(0, 3): its fence goes with it", x.post(0, 3), 0);
        due("told(14)", x.told(14), 3);
    }

    private static void thawFrom1To99() {
        sentence = "THAW of t (1 .. 99)";
        CrowFences x = made("w2 0 0;h9 30;");
        passHours(x, 10);
        due("thaw(0)", x.thaw(0), OUTSIDE);
        due("thaw(1)", x.thaw(1), 2 * 299);
        due("thaw(99)", x.thaw(99), 2 * 200);
        due("thaw(100)", x.thaw(100), OUTSIDE);
        due("thaw(-1)", x.thaw(-1), OUTSIDE);
        dueSnow(x, 200, 200);
        due("told(14)", x.told(14), 3);
    }

    private static void thawTo0() {
        sentence = "each CELL has t SNOW less (0 at least)";
        for (int t = 9; t <= 11; t++) {
            CrowFences x = made("w2 9 0;p1 0;h18 20;");
            x.hour(1);
            dueSnow(x, 10, 30);
            due("thaw(" + t + ")", x.thaw(t), Math.max(0, 10 - t) + 30 - t);
            dueSnow(x, Math.max(0, 10 - t), 30 - t);
        }
        CrowFences x = made(CALM);
        due("thaw(99) of no SNOW", x.thaw(99), 0);
        due("told(14)", x.told(14), 1);
    }

    private static void shoutedTo0() {
        sentence = "SHOUTED: 1 SPOON less from then on (0 at least)";
        CrowFences x = made("w1 0 0;p0 9;c2 9;c0 1;");
        due("shout(0)", x.shout(0), 1);
        due("worth(0, 0)", x.worth(0, 0), 82);
        due("shout(0)", x.shout(0), 0);
        due("shout(0)", x.shout(0), 0);
        due("shout(1)", x.shout(1), 0);
        due("crow(0, 0)", x.crow(0, 0), 0);
        due("worth(0, 0)", x.worth(0, 0), 81);
        due("worth(0, 1)", x.worth(0, 1), 9);
        due("told(14)", x.told(14), 4);
        due("undo()", x.undo(), 3);
        due("undo()", x.undo(), 2);
        due("undo()", x.undo(), 1);
        due("crow(0, 0)", x.crow(0, 0), 1);
        due("shout(-1)", x.shout(-1), UNKNOWN);
        due("shout(2)", x.shout(2), UNKNOWN);
    }

    // ---- tried

    private static void liesFrom0To40() {
        sentence = "LIES: behind n HOURS (0 .. 40)";
        CrowFences x = made(CALM);
        x.hour(7);
        due("lies(0, -1)", x.lies(0, -1), OUTSIDE);
        due("lies(0, 0)", x.lies(0, 0), 7);
        due("lies(0, 40)", x.lies(0, 40), 47);
        due("lies(0, 41)", x.lies(0, 41), OUTSIDE);
        due("lies(1, 41)", x.lies(1, 41), UNKNOWN);
        due("told(5)", x.told(5), 7);
    }

    private static void openFrom0To40() {
        sentence = "OPEN: behind n HOURS (0 .. 40)";
        CrowFences x = made("w1 0 40;r0;h9 1;");
        due("open(-1)", x.open(-1), OUTSIDE);
        due("open(0)", x.open(0), 1);
        due("open(40)", x.open(40), 1);
        due("open(41)", x.open(41), OUTSIDE);
        x.hour(1);
        due("open(39)", x.open(39), 1);
        due("open(40)", x.open(40), 0);
        x = new CrowFences();
        due("open(0) without a PLATEAU", x.open(0), 1);
        due("open(40) without a PLATEAU", x.open(40), 1);
        due("open(41) without a PLATEAU", x.open(41), OUTSIDE);
    }

    private static void openWithDOrLess() {
        sentence = "a CELL of the ROAD is open with D of snow or less";
        for (int d : new int[] {0, 1, 98, 99}) {
            CrowFences x = made("w2 0 " + d + ";r0;r1;h9 1;");
            passHours(x, d);
            due("told(8) of " + d, x.told(8), 3);
            due("open(0) of " + d, x.open(0), 1);
            due("open(1) of " + d, x.open(1), 0);
            x.hour(1);
            due("told(8) above " + d, x.told(8), 0);
            due("open(0) above " + d, x.open(0), 0);
        }
    }

    private static void roadWithoutCells() {
        sentence = "a ROAD without CELLS is open";
        CrowFences x = made("w1 0 0;p0 1;c1 1;h9 30;");
        passHours(x, 60);
        due("told(7)", x.told(7), 0);
        due("told(8)", x.told(8), 0);
        due("open(40)", x.open(40), 1);
        due("lets(40, NONE)", x.lets(40, NONE), 2);
        due("fewest(40)", x.fewest(40), 0);
    }

    private static void letsFrom1To40() {
        sentence = "LETS for n HOURS (1 .. 40)";
        CrowFences x = made("w1 0 40;r0;p0 2;c3 4;h9 1;");
        due("lets(0, NONE)", x.lets(0, NONE), OUTSIDE);
        due("lets(0, 0)", x.lets(0, 0), OUTSIDE);
        due("lets(1, NONE)", x.lets(1, NONE), 11);
        due("lets(40, NONE)", x.lets(40, NONE), 11);
        due("lets(40, 0)", x.lets(40, 0), 0);
        due("lets(41, NONE)", x.lets(41, NONE), OUTSIDE);
        due("lets(41, 0)", x.lets(41, 0), OUTSIDE);
        due("lets(41, 1)", x.lets(41, 1), UNKNOWN);
        due("lets(41, -2)", x.lets(41, -2), UNKNOWN);
        x.hour(1);
        due("lets(39, NONE)", x.lets(39, NONE), 11);
        due("lets(40, NONE)", x.lets(40, NONE), NONE);
        due("lets(40, 0)", x.lets(40, 0), NONE);
        x = new CrowFences();
        due("lets(1, NONE) without a PLATEAU", x.lets(1, NONE), 0);
        due("lets(41, NONE) without a PLATEAU", x.lets(41, NONE), OUTSIDE);
        due("lets(1, 0) without a PLATEAU", x.lets(1, 0), UNKNOWN);
    }

    private static void letsNone() {
        sentence = "LETS: NONE";
        CrowFences x = made("w1 0 0;r0;p0 2;c3 4;h9 1;");
        due("lets(1, NONE): none is open", x.lets(1, NONE), NONE);
        due("lets(1, 0)", x.lets(1, 0), NONE);
        x = made("w1 0 99;r0;p0 2;h9 1;");
        due("lets(1, NONE): none that bids", x.lets(1, NONE), 0);
        due("lets(1, 0): nobody", x.lets(1, 0), NONE);
        // 9 come to cell 2, 7 if the fence stands: it does not, with nobody to be LET to.
        x = made("w3 0 7;r2;p0 0;h18 10;");
        due("lets(1, NONE): none that bids, and not open", x.lets(1, NONE), NONE);
        x = made("w3 0 7;r2;p0 0;c0 0;h18 10;");
        due("lets(1, NONE): open by one that bids nothing", x.lets(1, NONE), 0);
        due("lets(1, 0)", x.lets(1, 0), 0);
        x = made("w1 0 99;r0;c3 4;h9 1;");
        due("lets(1, NONE): no POST", x.lets(1, NONE), 0);
        x = made("w1 0 0;r0;c3 4;h9 1;");
        due("lets(1, NONE): no POST, and not open", x.lets(1, NONE), NONE);
    }

    private static void letsOfNobody() {
        sentence = "LETS: of like ones the first (the lesser CROW, nobody last)";
        CrowFences x = made("w3 0 0;p0 0;p1 0;p2 0;c0 0;c0 0;");
        due("lets(1, NONE)", x.lets(1, NONE), 0);
        due("lets(1, 0)", x.lets(1, 0), 0);
        due("lets(1, 1)", x.lets(1, 1), 1);
        due("lets(1, 2)", x.lets(1, 2), NONE);
        x = made(LARGEST);
        due("lets(40, NONE)", x.lets(40, NONE), 10);
        for (int p = 0; p < 5; p++) {
            due("lets(40, " + p + ")", x.lets(40, p), p);
        }
        due("lets(40, 5)", x.lets(40, 5), NONE);
        due("lets(40, 6)", x.lets(40, 6), UNKNOWN);
        // More SPOONS go ahead of the lesser CROW.
        x = made("w2 0 0;p0 0;p1 9;c5 1;c5 0;");
        due("lets(1, NONE)", x.lets(1, NONE), 19);
        due("lets(1, 0)", x.lets(1, 0), 1);
        due("lets(1, 1)", x.lets(1, 1), 0);
    }

    private static void letsOfAllPosts() {
        sentence = "LETS: so that the ROAD is OPEN and SPOONS together are most";
        // Each road cell gets 5 right behind a fence that stands, 7 or more without it: all must be LET.
        String six = "w12 0 5;r1;r3;r5;r7;r9;r11;p0 1;p2 2;p4 3;p6 4;p8 5;p10 6;h18 10;c0 0;c0 1;c0 2;c0 3;";
        CrowFences x = made(six + "c0 4;");
        due("lets(1, NONE): six POSTS, five CROWS", x.lets(1, NONE), NONE);
        due("lets(1, 5)", x.lets(1, 5), NONE);
        String five = "w10 0 5;r1;r3;r5;r7;r9;p0 1;p2 2;p4 3;p6 4;p8 5;h18 10;c0 0;c0 1;c0 2;c0 3;";
        x = made(five);
        due("lets(1, NONE): five POSTS, four CROWS", x.lets(1, NONE), NONE);
        x = made(five + "c0 4;");
        due("lets(1, NONE)", x.lets(1, NONE), 2 + 2 * 3 + 3 * 4 + 4 * 5);
        for (int p = 0; p < 5; p++) {
            due("lets(1, " + p + ")", x.lets(1, p), p);
        }
        due("lets(2, NONE)", x.lets(2, NONE), NONE);

        // A fence on the ROAD keeps too much: the one that bids most there stays without a POST.
        x = made("w3 0 7;r1;p1 9;p0 0;c9 9;c1 0;h18 10;");
        due("lets(1, NONE)", x.lets(1, NONE), 9);
        due("lets(1, 0)", x.lets(1, 0), NONE);
        due("lets(1, 1)", x.lets(1, 1), 0);
        x = made("w3 0 10;r1;p1 9;p0 0;c9 9;c1 0;h18 10;");
        due("lets(1, NONE) with D of 10", x.lets(1, NONE), 91);
        due("lets(1, 0) with D of 10", x.lets(1, 0), 0);
        due("lets(1, 1) with D of 10", x.lets(1, 1), 1);
    }

    private static void letsAnew() {
        sentence = "LETS: anew, all fences STAND; SNOW as it lies now";
        CrowFences x = made("w2 5 9;r1;p0 0;c0 0;h12 8;h18 0;");
        // With the fence 4 come to cell 1, without it 6. B is 5: the first wind leaves it standing.
        x.hour(1);
        dueSnow(x, 8, 4);
        x.hour(1);
        due("told(9)", x.told(9), 0);
        due("lies(1, 1)", x.lies(1, 1), 10);
        due("open(1)", x.open(1), 0);
        due("lets(1, NONE)", x.lets(1, NONE), 0);
        due("lets(1, 0)", x.lets(1, 0), 0);
        due("fewest(1)", x.fewest(1), 0);
        due("told(9)", x.told(9), 0);
        due("told(10)", x.told(10), 0);
    }

    private static void fewestFrom1To40() {
        sentence = "FEWEST: n HOURS, as for LETS (1 .. 40)";
        CrowFences x = made("w1 0 40;r0;p0 2;h9 1;");
        due("fewest(0)", x.fewest(0), OUTSIDE);
        due("fewest(1)", x.fewest(1), 0);
        due("fewest(40)", x.fewest(40), 0);
        due("fewest(41)", x.fewest(41), OUTSIDE);
        x.hour(1);
        due("fewest(39)", x.fewest(39), 0);
        due("fewest(40)", x.fewest(40), NONE);
    }

    private static void fewestFromNoneToAll() {
        sentence = "FEWEST: a SET, of like ones the least; NONE";
        // Each road cell gets 5 right behind a fence that stands, 7 or more without it.
        String all = "w12 0 5;r1;r3;r5;r7;r9;r11;p0 0;p2 0;p4 0;p6 0;p8 0;p10 0;h18 10;";
        due("fewest(1): all six, though there is no CROW", made(all).fewest(1), 63);
        due("fewest(2)", made(all).fewest(2), NONE);
        due("fewest(1): the last alone", made("w12 0 5;r11;p0 0;p2 0;p4 0;p6 0;p8 0;p10 0;h18 10;").fewest(1), 32);
        due("fewest(1): the first alone", made("w12 0 5;r1;p0 0;p2 0;p4 0;p6 0;p8 0;p10 0;h18 10;").fewest(1), 1);
        due("fewest(1): none", made("w12 0 99;r1;p0 0;p2 0;h18 10;").fewest(1), 0);
        due("fewest(1): without POSTS", made("w2 0 6;r1;h18 10;").fewest(1), NONE);
        due("fewest(1): without POSTS", made("w2 0 7;r1;h18 10;").fewest(1), 0);
        // 9 come to cell 2 without a fence, 7 with one in cell 0, 5 with one in cell 1.
        due("fewest(1): of two like ones the least", made("w3 0 7;r2;p1 0;p0 0;h18 10;").fewest(1), 1);
        due("fewest(1): of two like ones the least", made("w3 0 7;r2;p0 0;p1 0;h18 10;").fewest(1), 1);
        due("fewest(1): the one that does", made("w3 0 6;r2;p0 0;p1 0;h18 10;").fewest(1), 2);
        due("fewest(1): one rather than two that are less", made("w4 0 5;r3;p0 0;p1 0;p2 0;h18 10;").fewest(1), 4);
    }

    private static void yardFrom0To40() {
        sentence = "YARD: n HOURS, as for LIES (0 .. 40)";
        CrowFences x = made("w2 0 0;p0 0;c0 0;h18 4;");
        x.let(0, 0);
        // In cell 0: 4 and 2; in cell 1: 2 and 6.
        due("yard(0, 0, -1)", x.yard(0, 0, -1), OUTSIDE);
        due("yard(0, 0, 0)", x.yard(0, 0, 0), 10000);
        due("yard(0, 0, 1)", x.yard(0, 0, 1), 9998);
        due("yard(0, 1, 1)", x.yard(0, 1, 1), 10004);
        due("yard(0, 0, 40)", x.yard(0, 0, 40), 10000 - 80);
        due("yard(0, 1, 40)", x.yard(0, 1, 40), 10000 + 160);
        due("yard(0, 0, 41)", x.yard(0, 0, 41), OUTSIDE);
        due("yard(0, 2, 41)", x.yard(0, 2, 41), UNKNOWN);
        due("yard(1, 0, 41)", x.yard(1, 0, 41), UNKNOWN);
        due("post(0, 0)", x.post(0, 0), 0);
    }

    private static void yardThatCannotBe() {
        sentence = "YARD: NONE: it cannot be";
        CrowFences x = made("w3 0 0;p2 0;p0 0;p1 0;h18 4;");
        due("yard(0, 0, 1): no CELL there", x.yard(0, 0, 1), NONE);
        due("yard(0, 0, 0): no CELL there", x.yard(0, 0, 0), NONE);
        due("yard(1, 0, 1): a POST is there", x.yard(1, 0, 1), NONE);
        due("yard(2, 0, 1): a POST is there", x.yard(2, 0, 1), NONE);
        due("yard(0, 0, 41)", x.yard(0, 0, 41), OUTSIDE);
        due("yard(0, 3, 1)", x.yard(0, 3, 1), UNKNOWN);
        x = made("w3 0 0;p1 0;h18 4;");
        due("yard(0, 0, 1): to the last CELL", x.yard(0, 0, 1), 10000);
        x.move(0, true);
        due("yard(0, 0, 1): from it", x.yard(0, 0, 1), NONE);
    }

    private static void yardBothWays() {
        sentence = "YARD: by how much SNOW is more, and 10000";
        CrowFences x = made("w2 0 0;p0 0;c0 0;h18 30;");
        x.let(0, 0);
        passHours(x, 333);
        // 9990 and 4995: cell 0 has 9999 at most either way.
        due("yard(0, 0, 1)", x.yard(0, 0, 1), 10000);
        due("yard(0, 1, 1)", x.yard(0, 1, 1), 10000 + 30);
        due("yard(0, 0, 40)", x.yard(0, 0, 40), 10000);
        due("yard(0, 1, 40)", x.yard(0, 1, 40), 10000 + 40 * 30);
        x = made("w2 0 0;p0 0;h18 30;");
        due("yard(0, 0, 40): it is blown down here or there", x.yard(0, 0, 40), 10000);
        due("yard(0, 1, 40)", x.yard(0, 1, 40), 10000);
    }

    private static void outFrom0To9999() {
        sentence = "OUT: behind how many HOURS (0 .. 9999) of THAW t each (1 .. 99)";
        CrowFences x = made("w1 0 0;h9 9;h9 9;h9 1;");
        due("out(0, 0)", x.out(0, 0), OUTSIDE);
        due("out(0, 1) of no SNOW", x.out(0, 1), 0);
        due("out(0, 99) of no SNOW", x.out(0, 99), 0);
        due("out(0, 100)", x.out(0, 100), OUTSIDE);
        due("out(0, -1)", x.out(0, -1), OUTSIDE);
        due("out(1, 0)", x.out(1, 0), UNKNOWN);
        x.hour(1);
        due("out(0, 8)", x.out(0, 8), 2);
        due("out(0, 9)", x.out(0, 9), 1);
        due("out(0, 10)", x.out(0, 10), 1);
        due("out(0, 1)", x.out(0, 1), 9);
        due("out(0, 99)", x.out(0, 99), 1);
        passHours(x, 1800);
        due("snow(0)", x.snow(0), 9999);
        due("out(0, 1)", x.out(0, 1), 9999);
        due("out(0, 99)", x.out(0, 99), 101);
        due("out(0, 98)", x.out(0, 98), 103);
        for (int k = 0; k < 100; k++) {
            x.thaw(99);
        }
        due("thaw(99): the 101st takes all", x.thaw(99), 0);
    }

    private static void stillFrom0To60() {
        sentence = "STILL: n nights (0 .. 60), q 0 .. 100";
        CrowFences x = new CrowFences();
        due("still(-1, 0)", x.still(-1, 0), OUTSIDE);
        due("still(0, -1)", x.still(0, -1), OUTSIDE);
        due("still(0, 0)", x.still(0, 0), 1000000000);
        due("still(0, 100)", x.still(0, 100), 1000000000);
        due("still(0, 101)", x.still(0, 101), OUTSIDE);
        due("still(60, 0)", x.still(60, 0), 1000000000);
        due("still(60, 100)", x.still(60, 100), 0);
        due("still(61, 0)", x.still(61, 0), OUTSIDE);
        due("still(61, 101)", x.still(61, 101), OUTSIDE);
        due("still(1, 100)", x.still(1, 100), 0);
        due("still(1, 99)", x.still(1, 99), 10000000);
        due("still(1, 1)", x.still(1, 1), 990000000);
    }

    private static void stillCutEachNight() {
        sentence = "STILL: (100 less q) / 100 each (cut)";
        CrowFences x = new CrowFences();
        for (int q = 0; q <= 100; q += 4) {
            long odds = 1000000000L;
            for (int n = 0; n <= 15; n++) {
                due("still(" + n + ", " + q + ")", x.still(n, q), (int) odds);
                odds = odds * (100 - q) / 100;
            }
        }
        // 50 of a hundred: halves, cut from the tenth night on; 29 halves leave 1, 30 nothing.
        due("still(9, 50)", x.still(9, 50), 1953125);
        due("still(10, 50)", x.still(10, 50), 976562);
        due("still(29, 50)", x.still(29, 50), 1);
        due("still(30, 50)", x.still(30, 50), 0);
    }

    // ---- crows that were seen, the book

    private static void sixSits() {
        sentence = "SITS (6 at most)";
        CrowFences x = made("w2 0 0;p0 0;p1 0;c0 0;c0 0;");
        for (int k = 1; k <= 6; k++) {
            due("see()", x.see(k % 2, k / 4), k);
            due("told(12)", x.told(12), k);
        }
        due("see(0, 0)", x.see(0, 0), FULL);
        due("see(2, 0)", x.see(2, 0), UNKNOWN);
        due("see(0, 2)", x.see(0, 2), UNKNOWN);
        due("told(12)", x.told(12), 6);
        due("tear()", x.tear(), 6);
        for (int k = 1; k <= 6; k++) {
            due("see() of the same", x.see(1, 1), k);
        }
        due("see(1, 1)", x.see(1, 1), FULL);
        x = new CrowFences();
        due("see(0, 0) without a PLATEAU", x.see(0, 0), UNKNOWN);
    }

    private static void subletsOfNoneAndAll() {
        sentence = "SUBLETS, GUESTS (SETS)";
        CrowFences x = made(LARGEST);
        due("sublets(-1)", x.sublets(-1), OUTSIDE);
        due("sublets(0) of none", x.sublets(0), 0);
        due("sublets(1) of none", x.sublets(1), 0);
        due("sublets(2)", x.sublets(2), OUTSIDE);
        for (int c = 0; c < 5; c++) {
            x.let(c, c);
            x.see((c + 1) % 5, c);
        }
        due("sublets(0) of all", x.sublets(0), 31);
        due("sublets(1) of all", x.sublets(1), 31);
        x.see(4, 4);
        due("sublets(0): seen on its own", x.sublets(0), 15);
        due("sublets(1)", x.sublets(1), 31);
        x.tear();
        x.see(4, 5);
        due("sublets(0): a POST LET to nobody", x.sublets(0), 0);
        due("sublets(1): a POST LET to nobody", x.sublets(1), 0);
        x.see(4, 0);
        due("sublets(0)", x.sublets(0), 1);
        due("sublets(1)", x.sublets(1), 16);
    }

    private static void fitFromNoneToAll() {
        sentence = "FIT: ways to LET POSTS: how many";
        CrowFences x = made(LARGEST);
        due("fit(-1)", x.fit(-1), OUTSIDE);
        due("fit(2)", x.fit(2), OUTSIDE);
        due("fit(0) of all", x.fit(0), 4051);
        due("fit(1) of all", x.fit(1), 0);
        for (int p = 0; p < 5; p++) {
            x.see(p, p);
        }
        due("fit(0): each has its own", x.fit(0), 1);
        due("fit(1): each can be LET to one", x.fit(1), 0);
        x.see(0, 5);
        due("fit(0): six POSTS, five CROWS", x.fit(0), 0);
        due("fit(1): there are none", x.fit(1), NONE);
        due("fit(0) without POSTS", made("w1 0 0;c0 0;").fit(0), 1);
        due("fit(1) without POSTS", made("w1 0 0;c0 0;").fit(1), NONE);
        due("fit(0) without CROWS", made("w1 0 0;p0 0;").fit(0), 1);
        due("fit(1) without CROWS", made("w1 0 0;p0 0;").fit(1), 0);
        due("fit(0) of one and one", made("w1 0 0;p0 0;c0 0;").fit(0), 2);
        due("fit(0) without a PLATEAU", new CrowFences().fit(0), 1);
        due("fit(1) without a PLATEAU", new CrowFences().fit(1), NONE);

        sentence = "FIT: to a CROW that was seen on it, or was seen nowhere";
        x = made("w2 0 0;p0 0;p1 0;c0 0;c0 0;c0 0;");
        x.see(0, 0);
        // POST 0 to 0, 1 or 2; POST 1 to one of the two others or nobody.
        due("fit(0)", x.fit(0), 3 * 3);
        x.see(1, 1);
        // 0 and 1, 0 and 2, 2 and 1.
        due("fit(0)", x.fit(0), 3);
        x.see(2, 1);
        due("fit(0)", x.fit(0), 2);
    }

    private static void lookOfLikeOnes() {
        sentence = "LOOK: the POST that can be LET to most (nobody counts as one); of like ones the least";
        CrowFences x = made("w3 0 0;p0 0;p1 0;p2 0;c0 0;c0 0;");
        due("fit(1): all alike", x.fit(1), 0);
        x.see(0, 0);
        due("fit(1): POSTS 1 and 2 to nobody too", x.fit(1), 1);
        x.see(0, 1);
        // CROW 0 and CROW 1 on POSTS 0 and 1, either way: POST 2 to nobody.
        due("fit(1)", x.fit(1), 0);
        x.see(1, 1);
        due("fit(1): each of one", x.fit(1), 0);
        due("fit(0)", x.fit(0), 1);
    }

    private static void fifteenEntries() {
        sentence = "THE BOOK (15 at most)";
        CrowFences x = made("w2 0 0;");
        for (int k = 1; k <= 15; k++) {
            due("write()", x.write(k % 2, 0), k);
            due("told(13)", x.told(13), k);
        }
        due("write(0, 0)", x.write(0, 0), FULL);
        due("write(0, -1)", x.write(0, -1), OUTSIDE);
        due("write(0, 10000)", x.write(0, 10000), OUTSIDE);
        due("write(2, 0)", x.write(2, 0), UNKNOWN);
        due("write(2, 10000)", x.write(2, 10000), UNKNOWN);
        due("told(13)", x.told(13), 15);
        due("judge()", x.judge(), NONE);
        due("tear()", x.tear(), 15);
        for (int k = 1; k <= 14; k++) {
            x.write(0, 0);
        }
        due("write(1, 7)", x.write(1, 7), 15);
        due("judge(): the fifteenth", x.judge(), 14);
    }

    private static void entriesFrom0To9999() {
        sentence = "an entry (0 .. 9999)";
        CrowFences x = made("w1 0 0;h9 9;");
        due("write(0, -1)", x.write(0, -1), OUTSIDE);
        due("write(0, 10000)", x.write(0, 10000), OUTSIDE);
        due("told(13)", x.told(13), 0);
        due("write(0, 0)", x.write(0, 0), 1);
        due("write(0, 9999)", x.write(0, 9999), 2);
        due("judge()", x.judge(), 1);
        passHours(x, 1111);
        due("judge()", x.judge(), 0);
        x.tear();
        x.write(0, 9999);
        due("judge()", x.judge(), NONE);
        x.hour(1);
        due("judge()", x.judge(), NONE);
    }

    private static void wrongTheFirst() {
        sentence = "WRONG: the first that is otherwise now; NONE";
        CrowFences x = made("w3 0 0;h9 1;");
        due("judge() of an empty BOOK", x.judge(), NONE);
        x.write(0, 0);
        x.write(2, 1);
        x.write(1, 1);
        due("judge()", x.judge(), 1);
        x.hour(1);
        due("judge()", x.judge(), 0);
        x.undo();
        due("judge()", x.judge(), 1);
        due("judge() without a PLATEAU", new CrowFences().judge(), NONE);
    }

    private static void tornIsEmpty() {
        sentence = "tear: no CROW seen, THE BOOK is empty: how much both had";
        CrowFences x = made("w1 0 0;p0 0;c0 0;");
        due("tear() of nothing", x.tear(), 0);
        for (int k = 0; k < 15; k++) {
            x.write(0, 1);
            x.see(0, 0);
        }
        due("tear() of all", x.tear(), 21);
        due("told(12)", x.told(12), 0);
        due("told(13)", x.told(13), 0);
        due("judge()", x.judge(), NONE);
        due("fit(0)", x.fit(0), 2);
        due("tear()", x.tear(), 0);
        x.see(0, 0);
        due("tear()", x.tear(), 1);
        x.write(0, 0);
        due("tear()", x.tear(), 1);
        due("tear() without a PLATEAU", new CrowFences().tear(), 0);
    }

    // ---- draws, what is undone, images

    private static void seedFrom0() {
        sentence = "THE SEED becomes v (0 .. 2147483647)";
        CrowFences x = new CrowFences();
        due("seed(-1)", x.seed(-1), OUTSIDE);
        due("seed(MIN)", x.seed(Integer.MIN_VALUE), OUTSIDE);
        due("seed(1): 0 at first", x.seed(1), 0);
        due("seed(MAX)", x.seed(Integer.MAX_VALUE), 1);
        due("seed(-1)", x.seed(-1), OUTSIDE);
        due("seed(0)", x.seed(0), Integer.MAX_VALUE);
        due("seed(0)", x.seed(0), 0);
    }

    /** The seed behind one hour by draws (two draws) from a given one. */
    private static void dueDrawn(int from, int first, int second) {
        CrowFences x = made("w1 0 0;");
        x.seed(from);
        x.drift(1);
        due("seed() behind two draws from " + from, x.seed(first), second);
        // The first one is what a single draw makes of it: from it one hour more is as two from there.
        x.drift(1);
        long third = (second * 1103515245L + 12345L) % 2147483648L;
        due("seed() behind two draws from " + first, x.seed(0), (int) third);
    }

    private static void leftOverBy2ToThe31() {
        sentence = "THE SEED: left over by 2 to the 31";
        dueDrawn(0, 12345, 1406932606);
        dueDrawn(2088216195, 0, 12345);
        dueDrawn(230538014, 2147483647, 1043980748);
        dueDrawn(2147483647, 1043980748, (int) ((1043980748L * 1103515245L + 12345L) % 2147483648L));
        dueDrawn(1, 1103527590, (int) ((1103527590L * 1103515245L + 12345L) % 2147483648L));
    }

    /** What a row of two has behind one hour by draws, from seeds whose draws are the least and the most. */
    private static void dueDrift(int seed, int first, int second) {
        CrowFences x = made("w2 9 0;");
        x.seed(seed);
        due("drift(1) from " + seed, x.drift(1), first + second);
        dueSnow(x, first, second);
    }

    private static void drawsAtTheirEnds() {
        sentence = "a DRAW of 19 (as S), of 11 (as I)";
        // S 0 and I 10, S 18 and I 10, S 9 and I 10, S 8, S 10; I 0 of each wind.
        dueDrift(22, 7, 5);
        dueDrift(895, 5, 7);
        dueDrift(1235, 10, 10);
        dueDrift(502, 7, 5);
        dueDrift(456, 5, 7);
        for (int seed : new int[] {56, 361, 62, 21, 144}) {
            dueDrift(seed, 0, 0);
        }
        // From 230538014 the seed becomes the largest: 32767 draws 11, then 15929 draws 1.
        dueDrift(230538014, 0, 1);

        sentence = "a fence with nobody on it, by draws: down by S of 0 and 18, not by 9";
        int[] seeds = {22, 895, 1235};
        int[] stands = {0, 0, 1};
        for (int k = 0; k < 3; k++) {
            CrowFences x = made("w2 8 0;p0 0;p1 0;c0 0;");
            x.let(1, 0);
            x.seed(seeds[k]);
            x.drift(1);
            due("post(0, 3) from " + seeds[k], x.post(0, 3), stands[k]);
            due("post(1, 3) from " + seeds[k], x.post(1, 3), 1);
        }
    }

    private static void twentyAreKept() {
        sentence = "20 at most are kept, the oldest are lost";
        for (int done = 0; done <= 45; done++) {
            CrowFences x = made(CALM);
            for (int k = 0; k < done; k++) {
                x.hour(1);
            }
            int kept = Math.min(20, done);
            due("told(14) of " + done, x.told(14), kept);
            for (int k = 1; k <= kept; k++) {
                due("undo() of " + done, x.undo(), kept - k);
                due("told(5) of " + done, x.told(5), done - k);
                due("snow(0) of " + done, x.snow(0), done - k);
            }
            due("undo() of none", x.undo(), NOT);
            due("told(5) of " + done, x.told(5), done - kept);
        }
    }

    private static void eachKindIsUndone() {
        sentence = "the latest of hour(), let(), giveUp(), move(), thaw(), shout(), drift()";
        CrowFences x = made("w3 0 0;p0 1;c9 1;h18 8;");
        int[] sums = new int[8];
        int[] sets = new int[8];
        for (int k = 0; k < 8; k++) {
            due("told(14)", x.told(14), k);
            sums[k] = x.told(11) * 1000 + x.told(6) * 10 + x.crow(0, 0);
            sets[k] = x.told(5) * 100 + x.told(9) * 10 + x.told(10) + x.post(0, 0) * 1000;
            doOne(x, k);
        }
        for (int k = 6; k >= 0; k--) {
            due("undo()", x.undo(), k);
            due("what lies, is PAID, is bid", x.told(11) * 1000 + x.told(6) * 10 + x.crow(0, 0), sums[k]);
            due("HOURS, fences, cells", x.told(5) * 100 + x.told(9) * 10 + x.told(10) + x.post(0, 0) * 1000, sets[k]);
        }
        due("undo()", x.undo(), NOT);
        due("THE SEED stays: seed(0)", x.seed(0), 1406932606);

        sentence = "what is not of these cannot be undone";
        x = made(CALM);
        x.feed('w');
        x.see(0, 0);
        x.write(0, 0);
        x.tear();
        x.seed(1);
        x.lets(1, NONE);
        x.fit(0);
        x.keep(0);
        x.goBack(0);
        due("told(14)", x.told(14), 0);
        due("undo()", x.undo(), NOT);
    }

    private static void doOne(CrowFences x, int kind) {
        switch (kind) {
            case 0:
                due("let(0, 0)", x.let(0, 0), 10);
                break;
            case 1:
                due("hour(1)", x.hour(1), 8 + 4 + 6);
                break;
            case 2:
                due("move(0, true)", x.move(0, true), 1);
                break;
            case 3:
                due("thaw(5)", x.thaw(5), 3 + 0 + 1);
                break;
            case 4:
                due("shout(0)", x.shout(0), 8);
                break;
            case 5:
                due("giveUp(0)", x.giveUp(0), 0);
                break;
            case 6:
                // Draws of 0 and 7: left by 9, and the fence is down.
                due("drift(1)", x.drift(1), 4 + 6 + 5 + 3);
                break;
            default:
                break;
        }
    }

    private static void undoneAndDoneAgain() {
        sentence = "what was undone makes room";
        CrowFences x = made(CALM);
        passHours(x, 60);
        for (int k = 0; k < 25; k++) {
            x.thaw(1);
        }
        for (int k = 0; k < 15; k++) {
            x.undo();
        }
        due("told(14)", x.told(14), 5);
        due("snow(0)", x.snow(0), 60 - 10);
        for (int k = 0; k < 15; k++) {
            x.hour(1);
        }
        due("told(14)", x.told(14), 20);
        due("snow(0)", x.snow(0), 65);
        x.hour(1);
        due("told(14)", x.told(14), 20);
        for (int k = 19; k >= 0; k--) {
            due("undo()", x.undo(), k);
        }
        // The oldest of the five thaws is lost: six are done.
        due("snow(0)", x.snow(0), 60 - 6);
        due("undo()", x.undo(), NOT);
    }

    private static void imagesNotKept() {
        sentence = "IMAGES 0, 1; NOT: it was not kept";
        CrowFences x = made(CALM);
        for (int i : new int[] {-1, 2}) {
            due("keep(" + i + ")", x.keep(i), UNKNOWN);
            due("goBack(" + i + ")", x.goBack(i), UNKNOWN);
        }
        due("goBack(0)", x.goBack(0), NOT);
        due("goBack(1)", x.goBack(1), NOT);
        due("keep(1)", x.keep(1), 1);
        due("goBack(0)", x.goBack(0), NOT);
        due("goBack(1)", x.goBack(1), 1);
        due("goBack(1) again", x.goBack(1), 1);
        due("keep(0)", x.keep(0), 1);
        due("goBack(0)", x.goBack(0), 1);

        sentence = "plateau(): IMAGES are gone; with a FAULT they are not";
        for (char letter : "w1 0 0".toCharArray()) {
            x.feed(letter);
        }
        due("plateau()", x.plateau(), -11);
        due("goBack(0)", x.goBack(0), 1);
        due("goBack(1)", x.goBack(1), 1);
        tell(x, CALM);
        due("goBack(0)", x.goBack(0), NOT);
        due("goBack(1)", x.goBack(1), NOT);

        sentence = "IMAGES without a PLATEAU";
        x = new CrowFences();
        due("goBack(0)", x.goBack(0), NOT);
        x.seed(7);
        due("keep(0)", x.keep(0), 1);
        x.seed(8);
        due("goBack(0)", x.goBack(0), 1);
        due("seed(0)", x.seed(0), 7);
        due("plateau() of nothing", x.plateau(), 0);
        due("goBack(0)", x.goBack(0), NOT);
    }

    private static void imagesKeepAll() {
        sentence = "IMAGES keep all of section 2, THE SEED";
        CrowFences x = made("w3 0 0;p0 1;p2 1;c9 1;c5 0;h18 8;h9 1;");
        x.let(0, 0);
        x.hour(1);
        x.shout(0);
        x.seed(5);
        x.keep(0);
        x.giveUp(0);
        x.move(0, true);
        x.let(1, 0);
        x.thaw(1);
        x.shout(0);
        x.hour(1);
        x.seed(6);
        x.keep(1);
        due("goBack(0)", x.goBack(0), 1);
        dueFirstImage(x);
        due("goBack(1)", x.goBack(1), 1);
        dueSnow(x, 8, 4, 6);
        due("told(5)", x.told(5), 2);
        due("told(6)", x.told(6), 10 + 9);
        due("told(9)", x.told(9), 3);
        due("told(10)", x.told(10), 2);
        due("post(0, 0)", x.post(0, 0), 1);
        due("crow(0, 0)", x.crow(0, 0), 7);
        due("crow(0, 3)", x.crow(0, 3), 19);
        due("seed(9)", x.seed(9), 6);
        x.hour(1);
        due("goBack(0): what comes behind keep() is not of it", x.goBack(0), 1);
        dueFirstImage(x);
        x.hour(1);
        due("keep(0): it becomes what is so", x.keep(0), 1);
        x.hour(1);
        due("goBack(0)", x.goBack(0), 1);
        due("told(5)", x.told(5), 2);
    }

    private static void dueFirstImage(CrowFences x) {
        dueSnow(x, 8, 4, 6);
        due("told(5)", x.told(5), 1);
        due("told(6)", x.told(6), 10);
        due("told(9)", x.told(9), 1);
        due("told(10)", x.told(10), 1);
        due("post(0, 0)", x.post(0, 0), 0);
        due("post(0, 2)", x.post(0, 2), 0);
        due("post(1, 2)", x.post(1, 2), NONE);
        due("crow(0, 0)", x.crow(0, 0), 8);
        due("crow(0, 3)", x.crow(0, 3), 10);
        due("seed(77)", x.seed(77), 5);
    }

    private static void nothingUndoneBehindImages() {
        sentence = "nothing can be undone then";
        CrowFences x = made(CALM);
        for (int k = 0; k < 25; k++) {
            x.hour(1);
        }
        due("keep(2)", x.keep(2), UNKNOWN);
        due("goBack(0)", x.goBack(0), NOT);
        due("told(14) behind what was refused", x.told(14), 20);
        due("keep(0)", x.keep(0), 1);
        due("told(14) behind keep()", x.told(14), 0);
        due("undo()", x.undo(), NOT);
        due("hour(1)", x.hour(1), 26);
        due("goBack(0)", x.goBack(0), 1);
        due("told(14) behind goBack()", x.told(14), 0);
        due("undo()", x.undo(), NOT);
        due("hour(1)", x.hour(1), 26);
        due("undo()", x.undo(), 0);
        due("told(11)", x.told(11), 25);

        sentence = "SITS and THE BOOK are not of an IMAGE, nor undone";
        x.see(0, 0);
        x.write(0, 25);
        x.goBack(0);
        due("told(12)", x.told(12), 1);
        due("told(13)", x.told(13), 1);
        x.hour(1);
        x.undo();
        due("told(12)", x.told(12), 1);
        due("told(13)", x.told(13), 1);
    }

    private static void plateauBeginsAnew() {
        sentence = "plateau(): HOUR 0, no SNOW, nothing LET, PAID; no CROW seen, no BOOK; THE SEED stays";
        CrowFences x = made("w3 0 0;p0 1;c9 1;h18 8;");
        x.let(0, 0);
        x.shout(0);
        x.hour(1);
        x.move(0, true);
        x.giveUp(0);
        x.hour(1);
        x.let(0, 0);
        x.see(0, 0);
        x.write(0, 0);
        x.seed(5);
        tell(x, "w3 0 0;p0 1;c9 1;h18 8;");
        int[] wants = {3, 1, 1, 1, 0, 0, 0, 0, 0, 1, 0, 0, 0, 0, 0};
        for (int what = 0; what < wants.length; what++) {
            due("told(" + what + ")", x.told(what), wants[what]);
        }
        dueSnow(x, 0, 0, 0);
        due("post(0, 0)", x.post(0, 0), 0);
        due("post(0, 2)", x.post(0, 2), NONE);
        due("crow(0, 0): nothing was SHOUTED", x.crow(0, 0), 9);
        due("crow(0, 3)", x.crow(0, 3), 0);
        due("undo()", x.undo(), NOT);
        due("seed(0)", x.seed(0), 5);
    }
}
