/**
 * Runs of calls in which promises meet, each told with how its answers come about: what is LET, GIVEN UP, MOVED, SHOUTED,
 * thawed or blown ahead of what is TRIED, of an undo(), of a keep() and goBack(), of a plateau() with and without a FAULT.
 */
public final class CrowFencesMeetings {
    private static final int NONE = -1, UNKNOWN = -1000000001, NOT = -1000000003;

    /**
     * Six cells; B is 1, D is 14. Winds: right by 2 with 12 of snow, by which fences fall; left by 1 with 6; a calm with 3.
     * Nobody LET, the first hour brings 6 9 10 11 12 12, then the second 6 6 6 5 4 3.
     */
    private static final String PASS = "w6 1 14;r2;r4;p1 4;p3 2;p5 0;c6 1;c2 3;c9 0;h11 12;h8 6;h9 3;";

    private static String run = "";
    private static int asked = 0;
    private static int wrong = 0;

    public static void main(String[] args) {
        aheadOfTried();
        aheadOfUndo();
        aheadOfImages();
        aheadOfPlateau();
        aheadOfWhatWasSeen();
        System.out.println(wrong == 0 ? asked + " answers where promises meet are as due" : wrong + " answers are not as due");
        if (wrong != 0) {
            System.exit(1);
        }
    }

    private static void aheadOfTried() {
        nothingAheadOfTried();
        letAheadOfTried();
        givenUpAheadOfTried();
        movedAheadOfTried();
        shoutedAheadOfTried();
        blownAheadOfTried();
        drawnAheadOfTried();
        movedAndGivenUpAheadOfTried();
    }

    private static void aheadOfUndo() {
        letAndBlownAheadOfUndo();
        movedAndShoutedAheadOfUndo();
        drawnAheadOfUndo();
        undoneFromOneKindToTheNext();
    }

    private static void aheadOfImages() {
        letAndBlownAheadOfImages();
        movedAndShoutedAheadOfImages();
        twoImagesAndUndo();
    }

    private static void aheadOfPlateau() {
        allAheadOfAFault();
        imagesAndUndoAcrossAFault();
        allAheadOfANewPlateau();
        aLesserPlateau();
        noPlateauAgain();
    }

    private static void aheadOfWhatWasSeen() {
        letAheadOfSublets();
        seenAgain();
        bookAndTime();
    }

    // ---- how tests ask

    private static void due(String call, int got, int want) {
        asked++;
        if (got != want) {
            wrong++;
            System.out.println(run + ": " + call + " answered " + got + ", due is " + want);
        }
    }

    private static void feedAll(CrowFences x, String text) {
        for (int i = 0; i < text.length(); i++) {
            x.feed(text.charAt(i));
        }
    }

    private static CrowFences pass() {
        CrowFences x = new CrowFences();
        feedAll(x, PASS);
        due("plateau()", x.plateau(), 6);
        return x;
    }

    private static void dueSnow(CrowFences x, int... wants) {
        for (int a = 0; a < wants.length; a++) {
            due("snow(" + a + ")", x.snow(a), wants[a]);
        }
    }

    private static void dueLies(CrowFences x, int n, int... wants) {
        for (int a = 0; a < wants.length; a++) {
            due("lies(" + a + ", " + n + ")", x.lies(a, n), wants[a]);
        }
    }

    /** By how much more lies in each cell behind one hour if the post is MOVED. */
    private static void dueYard(CrowFences x, int p, int... wants) {
        for (int a = 0; a < wants.length; a++) {
            due("yard(" + p + ", " + a + ", 1)", x.yard(p, a, 1), 10000 + wants[a]);
        }
    }

    /** The spoons, and then the crow of each post. */
    private static void dueLets(CrowFences x, int n, int spoons, int... crows) {
        due("lets(" + n + ", NONE)", x.lets(n, NONE), spoons);
        for (int p = 0; p < crows.length; p++) {
            due("lets(" + n + ", " + p + ")", x.lets(n, p), crows[p]);
        }
    }

    private static void dueOpen(CrowFences x, int... wants) {
        for (int n = 0; n < wants.length; n++) {
            due("open(" + n + ")", x.open(n), wants[n]);
        }
    }

    private static void dueFewest(CrowFences x, int... wants) {
        for (int k = 0; k < wants.length; k++) {
            due("fewest(" + (k + 1) + ")", x.fewest(k + 1), wants[k]);
        }
    }

    /** What each crow bids now, has, has PAID. */
    private static void dueCrow(CrowFences x, int c, int bid, int post, int paid) {
        due("crow(" + c + ", 0)", x.crow(c, 0), bid);
        due("crow(" + c + ", 2)", x.crow(c, 2), post);
        due("crow(" + c + ", 3)", x.crow(c, 3), paid);
    }

    private static void duePost(CrowFences x, int p, int cell, int crow, int stands) {
        due("post(" + p + ", 0)", x.post(p, 0), cell);
        due("post(" + p + ", 2)", x.post(p, 2), crow);
        due("post(" + p + ", 3)", x.post(p, 3), stands);
    }

    /** HOURS, SPOONS PAID, how many can be undone. */
    private static void dueTimes(CrowFences x, int hours, int spoons, int undone) {
        due("told(5)", x.told(5), hours);
        due("told(6)", x.told(6), spoons);
        due("told(14)", x.told(14), undone);
    }

    // ---- ahead of what is TRIED

    private static void nothingAheadOfTried() {
        run = "nothing ahead of TRIED";
        CrowFences x = pass();
        dueBegun(x);
    }

    /** What is TRIED from a pass on which nothing was done. */
    private static void dueBegun(CrowFences x) {
        dueLies(x, 1, 6, 9, 10, 11, 12, 12);
        dueLies(x, 2, 12, 15, 16, 16, 16, 15);
        dueLies(x, 3, 15, 18, 19, 19, 19, 18);
        dueOpen(x, 1, 1, 0, 0);
        // 14 of crow 1 for the first, 8 of crow 0 for the second, 9 of crow 2 for the third.
        dueLets(x, 1, 14 + 8 + 9, 1, 0, 2);
        dueLets(x, 3, 14 + 8 + 9, 1, 0, 2);
        // By the first fence 12 and 14 come to the road behind two hours; three hours more want the second one too.
        dueFewest(x, 0, 1, 3);
        // Fences that nobody has fall by the first wind, here or a yard on.
        dueYard(x, 0, 0, 0, 0, 0, 0, 0);
        due("yard(2, 5, 1): no CELL there", x.yard(2, 5, 1), NONE);
        due("out(2, 1)", x.out(2, 1), 0);
        due("told(14)", x.told(14), 0);
    }

    private static void letAheadOfTried() {
        run = "LET ahead of TRIED";
        CrowFences x = pass();
        due("let(0, 0)", x.let(0, 0), 10);
        // All of 18 stays in cell 1: 6 for cell 2, 9 for the next, and so on.
        dueLies(x, 1, 6, 18, 6, 9, 10, 11);
        // Left, 3 4 5 6 for cells 5 to 2, 12 for cell 1, 3 for cell 0.
        dueLies(x, 2, 9, 30, 12, 14, 14, 14);
        dueOpen(x, 1, 1, 1, 0);
        // In cell 2 it keeps 21 there, 9 in cell 1 as without it, and 6 9 10 come behind it.
        dueYard(x, 0, 0, 9 - 18, 21 - 6, 6 - 9, 9 - 10, 10 - 11);
        due("worth(0, 0) though it is LET", x.worth(0, 0), 10);
        dueLets(x, 2, 31, 1, 0, 2);
        dueFewest(x, 0, 1, 3);
        due("told(6)", x.told(6), 10);
    }

    private static void givenUpAheadOfTried() {
        run = "GIVEN UP ahead of TRIED";
        CrowFences x = pass();
        x.let(0, 0);
        due("giveUp(0)", x.giveUp(0), 0);
        due("post(0, 3)", x.post(0, 3), 1);
        dueLies(x, 1, 6, 9, 10, 11, 12, 12);
        dueOpen(x, 1, 1, 0, 0);
        dueYard(x, 0, 0, 0, 0, 0, 0, 0);
        dueLets(x, 2, 31, 1, 0, 2);
        dueTimes(x, 0, 10, 2);

        run = "LET, blown, GIVEN UP ahead of TRIED";
        x = pass();
        x.let(0, 0);
        x.hour(1);
        dueSnow(x, 6, 18, 6, 9, 10, 11);
        x.giveUp(0);
        // The second wind is no stronger than B: the fence keeps 12 of it, though nobody has it; the fourth fells it.
        dueLies(x, 2, 9 + 3, 30 + 3, 12 + 3, 14 + 3, 14 + 3, 14 + 3);
        dueLies(x, 3, 12 + 6, 33 + 9, 15 + 10, 17 + 11, 17 + 12, 17 + 12);
        due("post(0, 3)", x.post(0, 3), 1);
        dueOpen(x, 1, 1, 0);
    }

    private static void movedAheadOfTried() {
        run = "MOVED ahead of TRIED";
        CrowFences x = pass();
        due("let(1, 2)", x.let(1, 2), 9);
        due("move(1, false)", x.move(1, false), 2);
        // The fence stands on the road now: 12 and 9 come to it.
        dueLies(x, 1, 6, 9, 21, 6, 9, 10);
        dueOpen(x, 1, 0, 0, 0);
        dueYard(x, 1, 0, 0, 10 - 21, 23 - 6, 6 - 9, 9 - 10);
        due("yard(0, 0, 1): a POST is there", x.yard(0, 0, 1), NONE);
        // For one hour 9 would lie in cell 2, with both fences LET all of 18 and then all of 12.
        dueLets(x, 1, 31, 1, 0, 2);
        // For two hours the one on the road must fall; then nobody has it.
        dueLets(x, 2, 14 + 9, 1, NONE, 2);
        dueLets(x, 3, NONE, NONE, NONE, NONE);
        dueFewest(x, 0, 1, NONE);
        due("worth(1, 1): VIEW goes with the POST", x.worth(1, 1), 2 + 3 * 2);

        run = "MOVED there and back ahead of TRIED";
        x = pass();
        x.move(0, true);
        x.move(0, false);
        dueLies(x, 1, 6, 9, 10, 11, 12, 12);
        dueFewest(x, 0, 1, 3);
        due("told(14)", x.told(14), 2);
    }

    private static void shoutedAheadOfTried() {
        run = "SHOUTED ahead of TRIED";
        CrowFences x = pass();
        x.move(1, false);
        dueLets(x, 2, 14 + 9, 1, NONE, 2);
        x.shout(2);
        due("shout(2)", x.shout(2), 7);
        dueLets(x, 2, 14 + 7, 1, NONE, 2);
        due("worth(2, 2)", x.worth(2, 2), 7);
        // Now crow 2 bids as crow 0: of like ones the lesser.
        due("shout(2)", x.shout(2), 6);
        dueLets(x, 2, 14 + 6, 1, NONE, 0);
        due("shout(0)", x.shout(0), 5);
        dueLets(x, 2, 14 + 6, 1, NONE, 2);
        due("let(0, 2)", x.let(0, 2), 6);
        due("shout(2)", x.shout(2), 5);
        dueCrow(x, 2, 5, 0, 6);
        due("worth(0, 2)", x.worth(0, 2), 5);
        due("told(6): PAID is PAID", x.told(6), 6);
        dueLies(x, 1, 6, 18, 6, 9, 10, 11);
    }

    private static void blownAheadOfTried() {
        run = "blown ahead of TRIED";
        CrowFences x = pass();
        due("hour(1)", x.hour(1), 60);
        dueLies(x, 1, 12, 15, 16, 16, 16, 15);
        due("out(5, 5)", x.out(5, 5), 3);
        dueLets(x, 1, NONE, NONE, NONE, NONE);
        dueFewest(x, NONE, NONE);

        run = "blown and thawed ahead of TRIED";
        due("thaw(10)", x.thaw(10), 5);
        due("told(9)", x.told(9), 0);
        // No fence stands: left, 3 4 5 6 6 6.
        dueLies(x, 1, 6, 6, 6, 6, 6, 5);
        dueOpen(x, 1, 1, 1, 0);
        dueLets(x, 3, 31, 1, 0, 2);
        dueFewest(x, 0, 0, 3);
        due("out(5, 1)", x.out(5, 1), 2);

        run = "blown, thawed and LET ahead of TRIED";
        due("let(1, 0)", x.let(1, 0), 8);
        due("told(9)", x.told(9), 2);
        // Left: 3, 4, then all of 11, and 3 4 5 behind it.
        dueLies(x, 1, 5, 4, 3, 12, 6, 5);
        // In cell 4 it would keep 9, and 3 4 5 6 come behind it.
        dueYard(x, 1, 1, 1, 1, 3 - 11, 9 - 4, 0);
        dueLets(x, 3, 31, 1, 0, 2);
        dueTimes(x, 1, 8, 3);
    }

    private static void drawnAheadOfTried() {
        run = "blown BY DRAWS ahead of TRIED";
        CrowFences x = pass();
        due("let(2, 1)", x.let(2, 1), 2);
        // Draws of 0 and 7, of 13 and 7. Left: all of 7, then 3 5 6 7 7. Right: 3 5 6 7 7, then all of 14.
        due("drift(2)", x.drift(2), 35 + 42);
        dueSnow(x, 7 + 3, 7 + 5, 6 + 6, 5 + 7, 3 + 7, 7 + 14);
        due("told(9)", x.told(9), 4);
        // Two hours went by: the third of the winds is next, a calm with 3.
        dueLies(x, 1, 13, 15, 15, 15, 13, 24);
        dueOpen(x, 1, 0);
        due("thaw(4)", x.thaw(4), 53);
        dueOpen(x, 1, 1, 0);
        dueLies(x, 2, 9 + 6, 11 + 9, 11 + 10, 11 + 11, 9 + 12, 20 + 24);
        due("out(5, 4)", x.out(5, 4), 5);
        due("seed(0)", x.seed(0), 1449466924);
    }

    private static void movedAndGivenUpAheadOfTried() {
        run = "LET, blown, MOVED, GIVEN UP ahead of TRIED";
        CrowFences x = pass();
        due("let(0, 1)", x.let(0, 1), 14);
        due("hour(1)", x.hour(1), 60);
        due("move(0, true)", x.move(0, true), 2);
        due("move(1, false): a POST is there", x.move(1, false), NOT);
        due("giveUp(0)", x.giveUp(0), 1);
        duePost(x, 0, 2, NONE, 1);
        // Left: 3 4 5, then all of 12 in cell 2, where nobody fells the fence.
        dueLies(x, 1, 6 + 4, 18 + 3, 6 + 12, 9 + 5, 10 + 4, 11 + 3);
        dueOpen(x, 1, 0);
        // If all fences stood: 6 3 9 6 for cells 5 to 2, so that the road is open without anybody.
        dueFewest(x, 0, NONE);
        dueLets(x, 1, 31, 1, 0, 2);
        due("hour(2)", x.hour(2), 109);
        due("told(9)", x.told(9), 1);
        due("hour(1)", x.hour(1), 169);
        due("told(9)", x.told(9), 0);
    }

    // ---- ahead of an undo()

    private static void letAndBlownAheadOfUndo() {
        run = "LET and blown ahead of undo()";
        CrowFences x = pass();
        x.hour(1);
        x.let(0, 0);
        due("hour(1)", x.hour(1), 60 + 3 + 12 + 6 + 5 + 4 + 3);
        due("undo()", x.undo(), 2);
        duePost(x, 0, 1, 0, 1);
        dueLies(x, 1, 6 + 3, 9 + 12, 10 + 6, 11 + 5, 12 + 4, 12 + 3);
        due("undo(): the fence is down again", x.undo(), 1);
        duePost(x, 0, 1, NONE, 0);
        dueCrow(x, 0, 6, NONE, 0);
        dueLies(x, 1, 12, 15, 16, 16, 16, 15);
        due("undo(): it stands again", x.undo(), 0);
        due("told(9)", x.told(9), 7);
        dueBegun(x);
        due("undo()", x.undo(), NOT);
        due("let(0, 1): nobody has it", x.let(0, 1), 14);
        dueTimes(x, 0, 14, 1);
    }

    private static void movedAndShoutedAheadOfUndo() {
        run = "MOVED and SHOUTED ahead of undo()";
        CrowFences x = pass();
        x.move(1, false);
        x.shout(2);
        x.shout(2);
        x.shout(2);
        dueLets(x, 2, 20, 1, NONE, 0);
        due("undo()", x.undo(), 3);
        dueLets(x, 2, 21, 1, NONE, 2);
        due("undo()", x.undo(), 2);
        due("undo()", x.undo(), 1);
        due("worth(2, 2)", x.worth(2, 2), 9);
        due("move(0, true): a POST is there", x.move(0, true), NOT);
        due("undo()", x.undo(), 0);
        due("post(1, 0)", x.post(1, 0), 3);
        dueBegun(x);
        due("move(0, true)", x.move(0, true), 2);

        run = "thawed and GIVEN UP ahead of undo()";
        x = pass();
        x.let(2, 2);
        x.hour(1);
        dueSnow(x, 6, 9, 10, 11, 12, 24);
        x.giveUp(2);
        x.thaw(99);
        due("undo()", x.undo(), 3);
        dueSnow(x, 6, 9, 10, 11, 12, 24);
        due("let(2, 0): it is GIVEN UP", x.let(2, 0), 6);
        due("undo()", x.undo(), 3);
        due("undo()", x.undo(), 2);
        dueCrow(x, 2, 9, 2, 9);
        due("let(2, 0): it is LET", x.let(2, 0), NOT);
    }

    private static void drawnAheadOfUndo() {
        run = "blown BY DRAWS ahead of undo()";
        CrowFences x = pass();
        x.let(2, 1);
        due("drift(1)", x.drift(1), 35);
        due("undo()", x.undo(), 1);
        due("told(9)", x.told(9), 7);
        // The seed stays: what comes is the second hour's draws, right by 4 with 7.
        due("drift(1)", x.drift(1), 3 + 5 + 6 + 7 + 7 + 14);
        due("told(9)", x.told(9), 4);
        due("seed(0)", x.seed(0), 1449466924);
        due("undo()", x.undo(), 1);
        due("drift(1) from the first again", x.drift(1), 35);
        dueSnow(x, 7, 7, 6, 5, 3, 7);
    }

    /** Twenty are kept, of all kinds: the first of 22 are lost. */
    private static void undoneFromOneKindToTheNext() {
        run = "undone from one kind to the next";
        CrowFences x = pass();
        x.let(0, 0);
        x.shout(0);
        for (int k = 0; k < 5; k++) {
            x.hour(3);
            x.move(2, k % 2 == 1);
            x.thaw(1);
            x.shout(1);
        }
        dueTimes(x, 15, 10, 20);
        for (int k = 19; k >= 0; k--) {
            due("undo()", x.undo(), k);
            due("told(5) with " + k + " left", x.told(5), (k + 3) / 4 * 3);
            due("crow(1, 0) with " + k + " left", x.crow(1, 0), Math.max(0, 2 - k / 4));
            due("post(2, 0) with " + k + " left", x.post(2, 0), (k + 2) / 4 % 2 == 0 ? 5 : 4);
        }
        due("undo()", x.undo(), NOT);
        duePost(x, 0, 1, 0, 1);
        dueCrow(x, 0, 5, 0, 10);
        due("told(11)", x.told(11), 0);
    }

    // ---- ahead of a keep() and goBack()

    private static void letAndBlownAheadOfImages() {
        run = "LET and blown ahead of keep() and goBack()";
        CrowFences x = pass();
        x.let(0, 0);
        x.hour(1);
        due("keep(0)", x.keep(0), 1);
        dueTimes(x, 1, 10, 0);
        x.giveUp(0);
        x.hour(3);
        due("told(9)", x.told(9), 0);
        x.let(1, 0);
        x.let(0, 1);
        due("goBack(0)", x.goBack(0), 1);
        dueTimes(x, 1, 10, 0);
        dueSnow(x, 6, 18, 6, 9, 10, 11);
        duePost(x, 0, 1, 0, 1);
        duePost(x, 1, 3, NONE, 0);
        dueCrow(x, 0, 6, 0, 10);
        dueCrow(x, 1, 2, NONE, 0);
        dueLies(x, 1, 9, 30, 12, 14, 14, 14);
        dueOpen(x, 1, 1, 0);
        // From here it goes on as it would have.
        due("hour(1)", x.hour(1), 93);
        due("undo()", x.undo(), 0);
        due("told(11)", x.told(11), 60);
    }

    private static void movedAndShoutedAheadOfImages() {
        run = "MOVED and SHOUTED ahead of keep() and goBack()";
        CrowFences x = pass();
        x.move(1, false);
        for (int k = 0; k < 3; k++) {
            x.shout(2);
        }
        x.keep(1);
        x.shout(0);
        x.move(1, true);
        x.move(2, false);
        // Now post 2 is on the road, where nobody can have it; crow 0 bids 5 and 2.
        dueLets(x, 2, 14 + 7, 1, 0, NONE);
        x.goBack(1);
        dueLets(x, 2, 20, 1, NONE, 0);
        duePost(x, 1, 2, NONE, 1);
        duePost(x, 2, 5, NONE, 1);
        due("worth(0, 0)", x.worth(0, 0), 10);
        due("undo()", x.undo(), NOT);
        due("move(0, true): a POST is there", x.move(0, true), NOT);
    }

    private static void twoImagesAndUndo() {
        run = "two IMAGES, draws and undo()";
        CrowFences x = pass();
        x.let(2, 1);
        x.keep(0);
        due("drift(1)", x.drift(1), 35);
        x.keep(1);
        due("drift(1)", x.drift(1), 77);
        due("undo()", x.undo(), 0);
        due("goBack(0): THE SEED too", x.goBack(0), 1);
        due("drift(2)", x.drift(2), 77);
        due("goBack(1)", x.goBack(1), 1);
        due("told(11)", x.told(11), 35);
        due("told(5)", x.told(5), 1);
        due("drift(1)", x.drift(1), 77);
        due("undo()", x.undo(), 0);
        due("undo()", x.undo(), NOT);
        due("keep(0)", x.keep(0), 1);
        x.goBack(1);
        // Image 1 has the seed behind one drawn hour, image 0 that behind two.
        due("seed(5)", x.seed(5), 1406932606);
        x.goBack(0);
        due("seed(5)", x.seed(5), 1449466924);
    }

    // ---- ahead of a plateau()

    /** Much is done, seen, written; then images and what can be undone are asked behind a text with a fault. */
    private static CrowFences winter() {
        CrowFences x = pass();
        x.seed(5);
        x.let(0, 0);
        x.keep(0);
        x.hour(1);
        x.shout(1);
        x.move(0, true);
        x.see(2, 0);
        x.write(1, 18);
        x.write(1, 17);
        return x;
    }

    private static void dueWinter(CrowFences x) {
        dueTimes(x, 1, 10, 3);
        dueSnow(x, 6, 18, 6, 9, 10, 11);
        duePost(x, 0, 2, 0, 1);
        duePost(x, 1, 3, NONE, 0);
        dueCrow(x, 0, 6, 0, 10);
        dueCrow(x, 1, 1, NONE, 0);
        due("sublets(0)", x.sublets(0), 1);
        due("sublets(1)", x.sublets(1), 4);
        due("judge()", x.judge(), 1);
        // As above, the fence in cell 2 keeps 12, and 3 4 come to cells 1 and 0.
        dueLies(x, 1, 10, 21, 18, 14, 14, 14);
        due("told(7)", x.told(7), 4 + 16);
        due("told(12)", x.told(12), 1);
        due("told(13)", x.told(13), 2);
    }

    private static void allAheadOfAFault() {
        run = "all ahead of a FAULT";
        String[] texts = {"r", "w13", "w6 1 14;w", "w1 0 0;r0;r0;", "w2 9 0;r1;p1 9;p0 1;c1 1;h9 30;h"};
        int[] kinds = {1, 2, 3, 4, 1};
        int[] places = {0, 1, 8, 11, 32};
        for (int k = 0; k < texts.length; k++) {
            CrowFences x = winter();
            feedAll(x, texts[k]);
            due("told(4)", x.told(4), texts[k].length());
            due("plateau() of " + texts[k], x.plateau(), -10 - kinds[k]);
            due("fault() of " + texts[k], x.fault(), places[k]);
            due("told(4)", x.told(4), 0);
            dueWinter(x);
            due("seed(0)", x.seed(0), 5);
        }
    }

    private static void imagesAndUndoAcrossAFault() {
        run = "IMAGES and undo() across a FAULT";
        CrowFences x = winter();
        feedAll(x, "w2 9 0;r1;p1 9;p0 1;c1 1;h9 30;x");
        due("plateau()", x.plateau(), -11);
        due("undo()", x.undo(), 2);
        due("post(0, 0)", x.post(0, 0), 1);
        due("undo()", x.undo(), 1);
        due("crow(1, 0)", x.crow(1, 0), 2);
        due("undo()", x.undo(), 0);
        due("told(11)", x.told(11), 0);
        dueLies(x, 1, 6, 18, 6, 9, 10, 11);
        due("goBack(1)", x.goBack(1), NOT);
        x.shout(2);
        due("goBack(0)", x.goBack(0), 1);
        dueCrow(x, 2, 9, NONE, 0);
        dueCrow(x, 0, 6, 0, 10);
        due("fault()", x.fault(), 31);
        // The draft that had a fault has left nothing in the text that comes next.
        feedAll(x, PASS);
        due("plateau()", x.plateau(), 6);
        due("fault()", x.fault(), NONE);
        dueBegun(x);
    }

    private static void allAheadOfANewPlateau() {
        run = "all ahead of a plateau() without a FAULT";
        CrowFences x = winter();
        feedAll(x, PASS);
        due("plateau()", x.plateau(), 6);
        dueTimes(x, 0, 0, 0);
        dueSnow(x, 0, 0, 0, 0, 0, 0);
        duePost(x, 0, 1, NONE, 1);
        duePost(x, 1, 3, NONE, 1);
        dueCrow(x, 0, 6, NONE, 0);
        dueCrow(x, 1, 2, NONE, 0);
        due("told(12)", x.told(12), 0);
        due("told(13)", x.told(13), 0);
        due("judge()", x.judge(), NONE);
        due("sublets(1)", x.sublets(1), 0);
        due("fit(0): three posts, three crows", x.fit(0), 1 + 9 + 18 + 6);
        due("goBack(0)", x.goBack(0), NOT);
        due("undo()", x.undo(), NOT);
        dueBegun(x);
        due("seed(0): THE SEED stays", x.seed(0), 5);
    }

    private static void aLesserPlateau() {
        run = "a plateau() with less of all";
        CrowFences x = winter();
        feedAll(x, "w2 9 9;p0 3;c1 1;");
        due("plateau()", x.plateau(), 2);
        due("told(7)", x.told(7), 0);
        due("told(9)", x.told(9), 1);
        due("told(3)", x.told(3), 0);
        due("snow(2)", x.snow(2), UNKNOWN);
        due("post(1, 0)", x.post(1, 0), UNKNOWN);
        due("crow(1, 0)", x.crow(1, 0), UNKNOWN);
        due("move(0, true): no POST is there", x.move(0, true), 1);
        due("move(0, true): no CELL there", x.move(0, true), NOT);
        due("worth(0, 0)", x.worth(0, 0), 4);
        due("lets(40, NONE)", x.lets(40, NONE), 4);
        due("fewest(40)", x.fewest(40), 0);
        due("hour(60): no wind, no snow", x.hour(60), 0);
        due("fit(0)", x.fit(0), 2);
        feedAll(x, PASS);
        due("plateau()", x.plateau(), 6);
        dueBegun(x);
    }

    private static void noPlateauAgain() {
        run = "no PLATEAU again";
        CrowFences x = winter();
        due("plateau() of an empty text", x.plateau(), 0);
        due("told(9)", x.told(9), 0);
        due("told(10)", x.told(10), 0);
        due("told(11)", x.told(11), 0);
        due("hour(1)", x.hour(1), NOT);
        due("let(0, 0)", x.let(0, 0), UNKNOWN);
        due("shout(0)", x.shout(0), UNKNOWN);
        due("undo()", x.undo(), NOT);
        due("goBack(0)", x.goBack(0), NOT);
        due("open(40)", x.open(40), 1);
        due("lets(40, NONE)", x.lets(40, NONE), 0);
        due("seed(6)", x.seed(6), 5);
        feedAll(x, PASS);
        due("plateau()", x.plateau(), 6);
        dueBegun(x);
    }

    // ---- ahead of what was seen and written

    private static void letAheadOfSublets() {
        run = "LET, MOVED, GIVEN UP ahead of SUBLETS, GUESTS";
        CrowFences x = pass();
        x.see(2, 0);
        due("sublets(0): it is LET to nobody", x.sublets(0), 0);
        due("sublets(1)", x.sublets(1), 0);
        x.let(0, 0);
        due("sublets(0)", x.sublets(0), 1);
        due("sublets(1)", x.sublets(1), 4);
        x.move(0, true);
        x.hour(2);
        due("sublets(0): MOVED and blown", x.sublets(0), 1);
        x.giveUp(0);
        x.let(0, 2);
        due("sublets(0): at home", x.sublets(0), 0);
        due("sublets(1)", x.sublets(1), 0);
        x.undo();
        due("sublets(0): LET to nobody", x.sublets(0), 0);
        x.undo();
        due("sublets(0): LET to crow 0 again", x.sublets(0), 1);
        x.keep(0);
        x.see(0, 0);
        due("sublets(0): seen there too", x.sublets(0), 0);
        due("sublets(1)", x.sublets(1), 4);
        x.goBack(0);
        due("told(12): what was seen stays seen", x.told(12), 2);
        due("sublets(0)", x.sublets(0), 0);
        // Post 0 to crow 0 or 2, or to crow 1, who was seen nowhere; 7 ways for the other two posts each.
        due("fit(0)", x.fit(0), 3 * 7);
        due("fit(1)", x.fit(1), 1);
    }

    private static void seenAgain() {
        run = "a CROW seen twice is seen";
        CrowFences x = pass();
        x.let(0, 0);
        x.see(2, 0);
        due("see(2, 0) again", x.see(2, 0), 2);
        due("sublets(0)", x.sublets(0), 1);
        due("sublets(1)", x.sublets(1), 4);
        due("fit(0): post 0 to any, 7 ways for the others", x.fit(0), 3 * 7);
        due("tear()", x.tear(), 2);
        x.see(1, 1);
        x.see(1, 1);
        due("see(0, 0)", x.see(0, 0), 3);
        // Post 0 to crow 0 or 2, post 1 to crow 1 or 2, not both to 2; post 2 to the one that is left, or nobody.
        due("fit(0)", x.fit(0), 3 * 2);
        due("fit(1): post 2 to each or nobody", x.fit(1), 2);
        due("sublets(0)", x.sublets(0), 0);

        run = "a CROW seen on two POSTS of others is a guest";
        x.let(1, 1);
        x.see(2, 0);
        x.see(2, 1);
        due("sublets(1)", x.sublets(1), 4);
        due("sublets(0): both were seen at home too", x.sublets(0), 0);
    }

    private static void bookAndTime() {
        run = "THE BOOK and what changes SNOW";
        CrowFences x = pass();
        x.write(5, 12);
        x.write(1, 18);
        due("judge()", x.judge(), 0);
        x.hour(1);
        due("judge(): nobody has the fence in cell 1", x.judge(), 1);
        x.undo();
        x.let(0, 0);
        x.hour(1);
        due("judge(): 11 lie in cell 5", x.judge(), 0);
        x.keep(0);
        x.tear();
        x.write(1, 18);
        due("judge()", x.judge(), NONE);
        x.thaw(1);
        due("judge(): thawed", x.judge(), 0);
        x.goBack(0);
        due("judge()", x.judge(), NONE);
        x.drift(1);
        due("judge(): blown BY DRAWS", x.judge(), 0);
        x.undo();
        due("judge()", x.judge(), NONE);
        feedAll(x, "w1 1");
        x.plateau();
        due("judge() behind a FAULT", x.judge(), NONE);
        due("told(13)", x.told(13), 1);
        due("tear()", x.tear(), 1);
    }
}
