/** The bounds of section 1, sentence by sentence: what a text may tell, and at which letter it has which fault. */
public final class CrowFencesText {
    private static final int NONE = -1, OUTSIDE = -1000000002, FULL = -1000000004;
    private static final String[] ALL = {
        "w12 9 99;", "r0;", "r11;", "p0 9;", "p11 0;", "p5 5;", "c99 9;", "c0 0;", "h18 30;", "h0 0;", "h9 15;"};

    private static String sentence = "";
    private static int asked = 0;
    private static int wrong = 0;

    public static void main(String[] args) {
        atMost240Letters();
        aFaultAt240Letters();
        anEmptyText();
        boundsOfNumbers();
        oneToThreeFigures();
        cellsThatThereAre();
        widthFirstAndOnce();
        sixPosts();
        fiveCrows();
        tenHours();
        eachOfTheRoadOnce();
        noTwoPostsInOne();
        blanks();
        lettersThatCannotStand();
        theEnd();
        theFirstLetter();
        ofTheseTheLeast();
        faultOfTheLatest();
        System.out.println(wrong == 0 ? asked + " answers of texts are as due" : wrong + " answers are not as due");
        if (wrong != 0) {
            System.exit(1);
        }
    }

    private static void due(String call, int got, int want) {
        asked++;
        if (got != want) {
            wrong++;
            System.out.println(sentence + ": " + call + " answered " + got + ", due is " + want);
        }
    }

    private static void feedAll(CrowFences x, String text) {
        for (int i = 0; i < text.length(); i++) {
            x.feed(text.charAt(i));
        }
    }

    private static CrowFences taken(String text, int cells) {
        CrowFences x = new CrowFences();
        feedAll(x, text);
        due("plateau() of '" + text + "'", x.plateau(), cells);
        due("fault() of '" + text + "'", x.fault(), NONE);
        due("told(0) of '" + text + "'", x.told(0), cells);
        return x;
    }

    private static void dueFault(String text, int kind, int place) {
        CrowFences x = new CrowFences();
        feedAll(x, text);
        due("plateau() of '" + text + "'", x.plateau(), -10 - kind);
        due("fault() of '" + text + "'", x.fault(), place);
        due("told(0) of '" + text + "'", x.told(0), 0);
        due("told(4) of '" + text + "'", x.told(4), 0);
    }

    private static String filled(String text, char letter, int length) {
        StringBuilder row = new StringBuilder(text);
        while (row.length() < length) {
            row.append(letter);
        }
        return row.toString();
    }

    private static void atMost240Letters() {
        sentence = "a text (240 letters at most)";
        CrowFences x = new CrowFences();
        for (int k = 1; k <= 240; k++) {
            due("feed(' ')", x.feed(' '), k);
            due("told(4)", x.told(4), k);
        }
        due("feed(' ')", x.feed(' '), FULL);
        due("feed(256)", x.feed(256), OUTSIDE);
        due("feed(-1)", x.feed(-1), OUTSIDE);
        due("told(4)", x.told(4), 240);

        sentence = "the text is empty then: 240 letters come again";
        x = new CrowFences();
        feedAll(x, filled("w3 1 1;", ' ', 240));
        due("plateau()", x.plateau(), 3);
        for (int k = 1; k <= 240; k++) {
            due("feed('w')", x.feed('w'), k);
        }
        due("feed('w')", x.feed('w'), FULL);

        sentence = "a letter (a number 0 .. 255)";
        for (int letter = -2; letter <= 257; letter++) {
            x = new CrowFences();
            due("feed(" + letter + ")", x.feed(letter), letter < 0 || letter > 255 ? OUTSIDE : 1);
            due("told(4)", x.told(4), letter < 0 || letter > 255 ? 0 : 1);
        }
    }

    private static void aFaultAt240Letters() {
        sentence = "a fault in a full text";
        String blanks = filled("", ' ', 233);
        taken(blanks + "w3 1 1;", 3);
        dueFault(blanks + "w3 1 1,", 1, 239);
        dueFault(filled("w3 1 1;", ' ', 239) + "r", 1, 240);
        dueFault(filled("w3 1 1", ' ', 240), 1, 240);
        dueFault(filled("w", '1', 240), 2, 1);
        dueFault(filled("", 'w', 240), 1, 1);

        // The 241st letter was refused, so that the text ends ahead of it.
        dueFault240("w3 1 1;" + filled("", ' ', 231) + "r0;");
    }

    private static void dueFault240(String text) {
        CrowFences x = new CrowFences();
        feedAll(x, text);
        due("plateau() of " + text.length() + " letters", x.plateau(), -11);
        due("fault() of " + text.length() + " letters", x.fault(), 240);
    }

    private static void anEmptyText() {
        sentence = "an empty text: no plateau";
        taken("", 0);
        taken(" ", 0);
        taken(filled("", ' ', 240), 0);
        CrowFences x = taken("w3 1 1;r0;p0 0;c1 1;h9 1;", 3);
        x.hour(1);
        x.let(0, 0);
        due("plateau()", x.plateau(), 0);
        due("fault()", x.fault(), NONE);
        for (int what = 0; what < 15; what++) {
            due("told(" + what + ")", x.told(what), 0);
        }
        due("snow(0)", x.snow(0), CrowFences.UNKNOWN);
        due("post(0, 0)", x.post(0, 0), CrowFences.UNKNOWN);
        due("crow(0, 0)", x.crow(0, 0), CrowFences.UNKNOWN);
        due("hour(1)", x.hour(1), CrowFences.NOT);
    }

    /** Each number of a clause with what stands ahead of it and behind it, and its bounds. */
    private static void boundsOfNumbers() {
        bounds("C 1 .. 12", "w", " 0 0;", 1, 12);
        bounds("B 0 .. 9", "w1 ", " 0;", 0, 9);
        bounds("D 0 .. 99", "w1 0 ", ";", 0, 99);
        bounds("V 0 .. 9", "w1 0 0;p0 ", ";", 0, 9);
        bounds("M 0 .. 99", "w1 0 0;c", " 0;", 0, 99);
        bounds("N 0 .. 9", "w1 0 0;c0 ", ";", 0, 9);
        bounds("S 0 .. 18", "w1 0 0;h", " 0;", 0, 18);
        bounds("I 0 .. 30", "w1 0 0;h0 ", ";", 0, 30);
        for (int cells = 1; cells <= 12; cells++) {
            bounds("A of the road, of " + cells, "w" + cells + " 0 0;r", ";", 0, cells - 1);
            bounds("A of a post, of " + cells, "w" + cells + " 0 0;p", " 0;", 0, cells - 1);
        }
        valuesAsTold();
    }

    private static void bounds(String what, String ahead, String behind, int least, int most) {
        sentence = "bounds: " + what;
        for (int value = 0; value <= 999; value++) {
            String text = ahead + value + behind;
            CrowFences x = new CrowFences();
            feedAll(x, text);
            boolean within = value >= least && value <= most;
            due("plateau() of '" + text + "'", x.plateau() > 0 ? 0 : 1, within ? 0 : 1);
            due("fault() of '" + text + "'", x.fault(), within ? NONE : ahead.length());
        }
        dueFault(ahead + (most + 1) + behind, 2, ahead.length());
    }

    private static void valuesAsTold() {
        sentence = "numbers at their bounds are as told";
        CrowFences x = taken("w12 0 0;p11 0;p0 9;c0 9;c99 0;h9 0;h9 30;r0;r11;", 12);
        due("post(0, 0)", x.post(0, 0), 11);
        due("post(0, 1)", x.post(0, 1), 0);
        due("post(1, 0)", x.post(1, 0), 0);
        due("post(1, 1)", x.post(1, 1), 9);
        due("crow(0, 0)", x.crow(0, 0), 0);
        due("crow(0, 1)", x.crow(0, 1), 9);
        due("crow(1, 0)", x.crow(1, 0), 99);
        due("crow(1, 1)", x.crow(1, 1), 0);
        due("told(7)", x.told(7), 1 + 2048);
        due("lies(0, 1)", x.lies(0, 1), 0);
        due("lies(0, 2)", x.lies(0, 2), 30);

        // S of 0 blows left, of 18 right: what comes to the last one is more.
        x = taken("w2 9 0;h0 4;h18 30;", 2);
        x.hour(1);
        due("snow(0)", x.snow(0), 3);
        due("snow(1)", x.snow(1), 2);
        x.hour(1);
        due("snow(0)", x.snow(0), 3 + 15);
        due("snow(1)", x.snow(1), 2 + 22);
    }

    private static void oneToThreeFigures() {
        sentence = "numbers have one to three figures";
        due("told(0)", taken("w5 5 5;", 5).told(0), 5);
        due("told(0)", taken("w05 05 05;", 5).told(0), 5);
        due("told(0)", taken("w005 005 005;", 5).told(0), 5);
        dueFault("w0005 5 5;", 2, 1);
        dueFault("w5 0005 5;", 2, 3);
        dueFault("w5 5 0005;", 2, 5);
        taken("w5 0 000;", 5);
        dueFault("w5 0 0000;", 2, 5);
        String[] aheads = {"r", "p", "p0 ", "c", "c0 ", "h", "h0 "};
        String[] behinds = {";", " 0;", ";", " 0;", ";", " 0;", ";"};
        for (int k = 0; k < aheads.length; k++) {
            taken("w2 0 0;" + aheads[k] + "001" + behinds[k], 2);
            dueFault("w2 0 0;" + aheads[k] + "0001" + behinds[k], 2, 7 + aheads[k].length());
            dueFault("w2 0 0;" + aheads[k] + "00000000001" + behinds[k], 2, 7 + aheads[k].length());
        }

        sentence = "a number of four figures or more, however it would wrap around";
        String[] wraps = {"65537", "4294967297", "18446744073709551617", "10001", "1000000001", "2147483649"};
        for (String each : wraps) {
            dueFault("w" + each + " 0 0;", 2, 1);
            dueFault("w2 0 0;r" + each + ";", 2, 8);
        }
    }

    private static void cellsThatThereAre() {
        sentence = "a cell that there is not (at its first)";
        dueFault("w1 0 0;r1;", 2, 8);
        dueFault("w1 0 0;r  001;", 2, 10);
        dueFault("w11 0 0;p11 0;", 2, 9);
        dueFault("w11 0 0;p 11 0;", 2, 10);
    }

    private static void widthFirstAndOnce() {
        sentence = "'w' first, once";
        for (String word : new String[] {"r0;", "p0 0;", "c0 0;", "h0 0;"}) {
            dueFault(word, 1, 0);
            dueFault("  " + word + "w1 0 0;", 1, 2);
            taken("w1 0 0;" + word, 1);
        }
        dueFault("w1 0 0;w1 0 0;", 3, 7);
        dueFault("w1 0 0;r0;p0 0;c0 0;h0 0;  w", 3, 27);
    }

    private static void sixPosts() {
        sentence = "6 posts at most";
        String text = "w12 0 0;";
        for (int p = 0; p < 6; p++) {
            text += "p" + p + " " + p + ";";
            CrowFences x = taken(text, 12);
            due("told(1)", x.told(1), p + 1);
            due("told(9)", x.told(9), (1 << (p + 1)) - 1);
            due("post(p, 1)", x.post(p, 1), p);
            due("post(p + 1, 1)", x.post(p + 1, 1), CrowFences.UNKNOWN);
        }
        dueFault(text + "p6 0;", 3, text.length());
        dueFault(text + " p", 3, text.length() + 1);
        dueFault(text + "p0 0;", 3, text.length());
        dueFault(text + "pp", 3, text.length());
    }

    private static void fiveCrows() {
        sentence = "5 crows at most";
        String text = "w1 0 0;";
        for (int c = 0; c < 5; c++) {
            text += "c" + c + " " + c + ";";
            CrowFences x = taken(text, 1);
            due("told(2)", x.told(2), c + 1);
            due("crow(c, 0)", x.crow(c, 0), c);
            due("crow(c + 1, 0)", x.crow(c + 1, 0), CrowFences.UNKNOWN);
        }
        dueFault(text + "c5 0;", 3, text.length());
        dueFault(text + "c", 3, text.length());
        dueFault(text + "c999 99;", 3, text.length());
    }

    private static void tenHours() {
        sentence = "10 hours at most";
        String text = "w1 0 0;";
        for (int h = 0; h < 10; h++) {
            text += "h9 " + h + ";";
            due("told(3)", taken(text, 1).told(3), h + 1);
        }
        dueFault(text + "h9 0;", 3, text.length());
        dueFault(text + "h", 3, text.length());
        dueFault(text + "h19 0;", 3, text.length());
    }

    private static void eachOfTheRoadOnce() {
        sentence = "a cell of the road: each once";
        String text = "w12 0 0;";
        for (int a = 11; a >= 0; a--) {
            text += "r" + a + ";";
            due("told(7)", taken(text, 12).told(7), 4096 - (1 << a));
        }
        for (int a = 0; a < 12; a++) {
            dueFault(text + "r" + a + ";", 4, text.length() + 1);
            dueFault(text + "r  " + a, 4, text.length() + 3);
        }
        dueFault(text + "r12;", 2, text.length() + 1);
        taken("w2 0 0;r0;p0 0;r1;p1 0;", 2);
    }

    private static void noTwoPostsInOne() {
        sentence = "no two posts in one";
        String text = "w12 0 0;p0 0;p11 1;p5 2;";
        taken(text + "p6 0;", 12);
        for (int a : new int[] {0, 11, 5}) {
            dueFault(text + "p" + a + " 0;", 4, text.length() + 1);
            dueFault(text + "p 0" + a + " 10;", 4, text.length() + 2);
            dueFault(text + "p" + a, 4, text.length() + 1);
        }
    }

    private static void blanks() {
        sentence = "blanks may stand anywhere but within numbers";
        taken("w1 0 0;", 1);
        taken("  w  1  0  0  ;  ", 1);
        CrowFences x = taken(" w 12   9 99 ; r 0 ;r  11; p 0  9 ; c 99  9 ; h  18 30 ; ", 12);
        due("told(7)", x.told(7), 2049);
        due("post(0, 1)", x.post(0, 1), 9);
        due("crow(0, 0)", x.crow(0, 0), 99);
        due("told(3)", x.told(3), 1);
        dueFault("w1 2 0 0;", 1, 7);
        dueFault("w12 0 0;r1 1;", 1, 11);
        dueFault("w12 0 0;c9 9 9;", 1, 13);

        sentence = "two numbers side by side need one";
        dueFault("w10 0;", 1, 5);
        dueFault("w100;", 2, 1);
        dueFault("w1 00;", 1, 5);
        dueFault("w1 0 0;p00;", 1, 10);
        dueFault("w1 0 0;c00;", 1, 10);
        dueFault("w1 0 0;h00;", 1, 10);
        taken("w1 0 0;p0 0;", 1);
    }

    /** Each letter from 0 to 255 at each kind of place. */
    private static void lettersThatCannotStand() {
        sentence = "1 it cannot stand there";
        for (char letter = 0; letter < 256; letter++) {
            boolean blank = letter == ' ';
            boolean figure = letter >= '0' && letter <= '9';
            if (!blank && letter != 'w') {
                dueFault("" + letter, 1, 0);
                dueFault(" " + letter + "w1 0 0;", 1, 1);
            }
            if (!blank && "wrpch".indexOf(letter) < 0) {
                dueFault("w1 0 0;" + letter, 1, 7);
                dueFault("w1 0 0; " + letter + ";", 1, 8);
            }
            if (!blank && !figure) {
                dueFault("w" + letter, 1, 1);
                dueFault("w1" + letter + " 0 0;", 1, 2);
                dueFault("w1 0 0;p" + letter + "0 0;", 1, 8);
                dueFault("w1 0 0;p0 " + letter, 1, 10);
            }
            if (!blank && letter != ';') {
                dueFault("w1 0 0 " + letter, 1, 7);
                dueFault("w1 0 0;r0 " + letter + ";", 1, 10);
                dueFault("w1 0 0;c0 0 " + letter + ";", 1, 12);
            }
            if (!blank && !figure && letter != ';') {
                dueFault("w1 0 0" + letter, 1, 6);
                dueFault("w1 0 0;h0 0" + letter + ";", 1, 11);
            }
        }
    }

    /** Each text that is cut between two clauses is whole, each other one has its fault at its length. */
    private static void theEnd() {
        sentence = "the end at the text's length";
        String ahead = "";
        for (String clause : ALL) {
            for (int cut = 1; cut < clause.length(); cut++) {
                String text = ahead + clause.substring(0, cut);
                dueFault(text, 1, text.length());
                dueFault(text + "  ", 1, text.length() + 2);
            }
            ahead += clause;
            taken(ahead, 12);
            taken(ahead + " ", 12);
        }
    }

    /** Of two faults the one at the lesser letter, whatever its number; of its own letter only. */
    private static void theFirstLetter() {
        sentence = "at the first letter that has one";
        String ahead = "w3 0 0;r0;p0 0;";
        String[] faults = {"x", "r3;", "w3 0 0;", "r0;"};
        int[] places = {0, 1, 0, 1};
        for (int first = 0; first < 4; first++) {
            for (int second = 0; second < 4; second++) {
                dueFault(ahead + faults[first] + faults[second], first + 1, ahead.length() + places[first]);
            }
            dueFault(ahead + "p0 0;" + faults[first], 4, ahead.length() + 1);
            dueFault(ahead + "p1 10;" + faults[first], 2, ahead.length() + 3);
        }
        dueFault(ahead + "p0 10;", 4, ahead.length() + 1);
        dueFault(ahead + "p3 10;", 2, ahead.length() + 1);
        dueFault(ahead + "r0x", 4, ahead.length() + 1);
        dueFault(ahead + "r3x", 2, ahead.length() + 1);
        dueFault("w13x", 2, 1);
        dueFault("w1000x", 2, 1);
        dueFault("wx13", 1, 1);
    }

    private static void ofTheseTheLeast() {
        sentence = "of these the least";
        // A number of four figures where none can stand: 1 and 2 at one letter.
        dueFault("1000", 1, 0);
        dueFault("w3 0 0;1000", 1, 7);
        dueFault("w3 0 0 1000;", 1, 7);
        // 'w' again where a number or the end is due, or a seventh 'p' there: 1 and 3.
        dueFault("w3 w", 1, 3);
        dueFault("w3 0 0;r w", 1, 9);
        dueFault("w3 0 0 w3 0 0;", 1, 7);
        dueFault("w9 0 0;p0 0;p1 0;p2 0;p3 0;p4 0;p5 0;r p", 1, 39);
        // A cell that is taken, told by four figures: 2 and 4.
        dueFault("w3 0 0;r0;r0000;", 2, 11);
        dueFault("w3 0 0;p2 0;p0002 0;", 2, 13);
    }

    private static void faultOfTheLatest() {
        sentence = "the letter of the fault of the latest plateau(); NONE";
        CrowFences x = new CrowFences();
        due("fault() of a new object", x.fault(), NONE);
        feedAll(x, "x");
        due("fault() ahead of plateau()", x.fault(), NONE);
        due("plateau()", x.plateau(), -11);
        due("fault()", x.fault(), 0);
        feedAll(x, "w1 0 0;");
        due("fault() while the next is fed", x.fault(), 0);
        due("plateau()", x.plateau(), 1);
        due("fault()", x.fault(), NONE);
        feedAll(x, "w1 0 0;w");
        due("plateau()", x.plateau(), -13);
        due("fault()", x.fault(), 7);
        due("told(0) as it was", x.told(0), 1);
        due("plateau() of nothing", x.plateau(), 0);
        due("fault()", x.fault(), NONE);
    }
}
