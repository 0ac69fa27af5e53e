/**
 * The sentences of the document that name a boundary, a test each: contexts and their flow, widths, floats,
 * and lines (promises 10 to 14, 18 to 20).
 */
public final class FlowEdgesTest extends Check {
    public static void main(String[] args) {
        pending();
        runsWithoutThings();
        outsideOfRuns();
        clearing();
        topEdges();
        tops();
        heldHeights();
        contextBlocks();
        contentHeights();
        knownHeights();
        atLeastZero();
        percentages();
        whatIsLeft();
        fit();
        floatsThatReach();
        containersOfTheWidth0();
        flatFloats();
        heightsTried();
        ends();
        outerFloats();
        besideFloats();
        roomOfALine();
        firstThings();
        cuts();
        linesOfThings();
        floatsInLines();
        waitingFloats();
        absoluteInLines();
        ascents();
        piecesOfWords();
        end("FlowEdgesTest");
    }

    /** "the greatest margin above 0 of them, and the least one below 0, added". */
    private static void pending() {
        FlowBoxes x = new FlowBoxes();
        int a = box(x, 0, HEIGHT, 1);
        int b = box(x, 0, MARGIN_TOP, 5, MARGIN_BOTTOM, -2);
        int c = box(x, 0, MARGIN_TOP, 7, MARGIN_BOTTOM, -3);
        int d = box(x, 0, HEIGHT, 1);
        due("none is 0", x.y(a), 0);
        due("5", x.y(b), 6);
        due("7 and -2", x.y(c), 6);
        due("7 and -3", x.y(d), 5);
        set(x, b, MARGIN_TOP, -8, MARGIN_BOTTOM, -1);
        set(x, c, MARGIN_TOP, -4, MARGIN_BOTTOM, 0);
        due("none above 0", x.y(d), -7);
        set(x, b, MARGIN_TOP, 40, MARGIN_BOTTOM, 39);
        set(x, c, MARGIN_TOP, 0);
        due("none below 0", x.y(d), 41);
        set(x, c, MARGIN_TOP, -40);
        due("0 together", x.y(d), 1);
        due("the height", x.height(0), 2);
    }

    /** "if there is a word or an inline block in it, the margins end ...; otherwise ... as those outside of runs". */
    private static void runsWithoutThings() {
        FlowBoxes x = new FlowBoxes();
        box(x, 0, HEIGHT, 1, MARGIN_BOTTOM, 5);
        int span = box(x, 0, DISPLAY, 1);
        int t = text(x, span, 4);
        int f = box(x, span, FLOAT, 1, WIDTH, 2, HEIGHT, 2);
        int a = box(x, span, POSITION, 2, WIDTH, 3, HEIGHT, 3);
        int b = box(x, 0, HEIGHT, 1, MARGIN_TOP, 9);
        place("the float at y and what is pending", x, f, 0, 6, 2, 2);
        place("the static place, too, at x", x, a, 0, 6, 3, 3);
        place("nothing ended", x, b, 0, 10, 60, 1);
        due("no line", x.lines(0), 0);
        x.word(t, 1, 0);
        place("a word ends them", x, b, 0, 6 + 4 + 9, 60, 1);
        due("a line", x.lines(0), 1);
        place("in the line", x, a, 4, 6, 3, 3);
        x.unword(t);
        int i = box(x, span, DISPLAY, 2);
        place("an inline block of nothing ends them", x, b, 0, 6 + 0 + 9, 60, 1);
        due("a line of nothing", x.line(0, 0, 3), 0);
        x.remove(i);
        place("none again", x, b, 0, 10, 60, 1);
    }

    /** "it is put at y and what is pending, or lower; pending stays"; "its static place is x, y and what is pending". */
    private static void outsideOfRuns() {
        FlowBoxes x = new FlowBoxes();
        int p = box(x, 0, MARGIN_TOP, 3, MARGIN_LEFT, 4);
        int f = box(x, p, FLOAT, 1, WIDTH, 2, HEIGHT, 2);
        int a = box(x, p, POSITION, 2, WIDTH, 3, HEIGHT, 3);
        int b = box(x, p, HEIGHT, 1, MARGIN_TOP, 8);
        place("the float", x, f, 4, 3, 2, 2);
        place("the static place", x, a, 4, 3, 3, 3);
        place("pending stayed", x, b, 4, 8, 56, 1);
        place("the parent's, too", x, p, 4, 8, 56, 1);
        set(x, p, MARGIN_TOP, -6);
        place("above 0", x, f, 4, -6, 2, 2);
        place("static above 0", x, a, 4, -6, 3, 3);
    }

    /** "let c be the greatest lower end of the floats that it clears (outer ends; 0 without any); if c is more ...". */
    private static void clearing() {
        FlowBoxes x = new FlowBoxes();
        int f = box(x, 0, FLOAT, 1, WIDTH, 2, HEIGHT, 4, MARGIN_BOTTOM, 1);
        int b = box(x, 0, CLEAR, 1, MARGIN_TOP, 5);
        int c = box(x, b, MARGIN_TOP, 7, HEIGHT, 1);
        due("c is no more: all stays pending", x.y(c), 7);
        set(x, b, MARGIN_TOP, 4);
        due("c is more: nothing is pending", x.y(c), 12);
        due("held with it", x.y(b), 12);
        set(x, c, MARGIN_TOP, 0);
        due("its outer end", x.y(b), 5);
        set(x, b, CLEAR, 2, MARGIN_TOP, -3);
        due("0 without any on that side", x.y(b), 0);
        set(x, b, CLEAR, 0);
        due("clears none", x.y(b), -3);
        set(x, f, MARGIN_TOP, -9, MARGIN_BOTTOM, 0);
        set(x, b, CLEAR, 3, MARGIN_TOP, -10);
        due("a lower end above 0", x.y(b), -5);
        set(x, b, CLEAR, 1, MARGIN_TOP, -4);
        due("no more than that", x.y(b), -4);
        set(x, b, CLEAR, 0, MARGIN_TOP, 0, CONTEXT, 1);
        box(x, 0, FLOAT, 2, WIDTH, 1, HEIGHT, 6);
        int d = box(x, 0, CONTEXT, 1, CLEAR, 2, HEIGHT, 1);
        due("a context clears likewise", x.y(d), 7);
        set(x, d, CLEAR, 1);
        due("the left ones only", x.y(d), 1);
        FlowBoxes y = new FlowBoxes();
        box(y, 0, FLOAT, 1, WIDTH, 2, HEIGHT, 9);
        box(y, 0, FLOAT, 1, WIDTH, 2, HEIGHT, 4);
        box(y, 0, FLOAT, 2, WIDTH, 2, HEIGHT, 7);
        box(y, 0, FLOAT, 2, WIDTH, 2, HEIGHT, 2);
        int e = box(y, 0, CLEAR, 1, HEIGHT, 1);
        due("the greatest of the left ones", y.y(e), 9);
        set(y, e, CLEAR, 2);
        due("the greatest of the right ones", y.y(e), 7);
        set(y, e, CLEAR, 3);
        due("the greatest of all", y.y(e), 9);
    }

    /** "if its edge at the top is above 0, the margins end". */
    private static void topEdges() {
        FlowBoxes x = new FlowBoxes();
        int b = box(x, 0, MARGIN_TOP, 2);
        int c = box(x, b, MARGIN_TOP, 5, HEIGHT, 1);
        due("0: one margin", x.y(c), 5);
        due("0: both are there", x.y(b), 5);
        set(x, b, EDGE_TOP, 1);
        due("1: two margins", x.y(c), 8);
        due("1: its own", x.y(b), 2);
        due("1: the height", x.height(b), 7);
    }

    /** "If its top is not held by now: if its height is known and above 0, or its edge at the bottom is above 0 ...". */
    private static void tops() {
        FlowBoxes x = new FlowBoxes();
        int b = box(x, 0, MARGIN_TOP, 2, MARGIN_BOTTOM, 5);
        int in = box(x, b, MARGIN_TOP, 3);
        int c = box(x, 0, HEIGHT, 1);
        place("unknown: y and what is pending", x, b, 0, 3, 60, 0);
        place("unknown: all margins together", x, c, 0, 5, 60, 1);
        set(x, b, HEIGHT, 0);
        place("known, and 0", x, b, 0, 3, 60, 0);
        place("known, and 0: all margins together", x, c, 0, 5, 60, 1);
        set(x, b, HEIGHT, 1);
        place("known, and above 0", x, b, 0, 3, 60, 1);
        place("known: its own one behind", x, c, 0, 9, 60, 1);
        place("what is in it was not held", x, in, 0, 3, 60, 0);
        set(x, b, HEIGHT, 0, EDGE_BOTTOM, 1);
        place("an edge", x, b, 0, 3, 60, 1);
        place("an edge: its own one behind", x, c, 0, 9, 60, 1);
        set(x, b, HEIGHT, AUTO);
        place("an edge, unknown", x, b, 0, 3, 60, 1);
        set(x, b, HEIGHT, 1050);
        place("a percentage of the unknown", x, b, 0, 3, 60, 1);
        set(x, b, EDGE_BOTTOM, 0, HEIGHT, 1000);
        place("no percent of the unknown", x, b, 0, 3, 60, 0);
    }

    /** "If its top is held: if its height is known ...; else, if its edge at the bottom is above 0 ...; else ...". */
    private static void heldHeights() {
        FlowBoxes x = new FlowBoxes();
        int b = box(x, 0);
        int in = box(x, b, HEIGHT, 5, MARGIN_BOTTOM, 9);
        int c = box(x, 0, HEIGHT, 1, MARGIN_TOP, 2);
        place("unknown", x, b, 0, 0, 60, 5);
        place("unknown: pending stays", x, c, 0, 14, 60, 1);
        set(x, b, EDGE_BOTTOM, 1);
        place("an edge at the bottom", x, b, 0, 0, 60, 15);
        place("behind the edge", x, c, 0, 17, 60, 1);
        set(x, b, EDGE_BOTTOM, 0, HEIGHT, 0);
        place("known, 0", x, b, 0, 0, 60, 0);
        place("known: nothing is pending any more", x, c, 0, 2, 60, 1);
        set(x, b, HEIGHT, 7, MARGIN_BOTTOM, 1, EDGE_BOTTOM, 3);
        place("known, more than there is", x, b, 0, 0, 60, 10);
        place("known: but its own margin is", x, c, 0, 12, 60, 1);
        set(x, b, HEIGHT, AUTO, MARGIN_BOTTOM, 0, EDGE_TOP, 1, EDGE_BOTTOM, 1);
        set(x, in, HEIGHT, 0, MARGIN_BOTTOM, -9);
        place("y above its top: at least 0", x, b, 0, 0, 60, 2);
        place("y is its top and edges", x, c, 0, 4, 60, 1);
        set(x, b, EDGE_BOTTOM, 0);
        place("y above its top, no edge: at least 0", x, b, 0, 0, 60, 1);
        place("what is pending stays", x, c, 0, -6, 60, 1);
        set(x, in, CONTEXT, 1);
        place("y itself above its top", x, b, 0, 0, 60, 1);
        set(x, in, MARGIN_BOTTOM, 0, MARGIN_TOP, -9);
        place("at least 0", x, b, 0, 0, 60, 1);
        place("y stays", x, c, 0, -6, 60, 1);
        place("the one in it is above", x, in, 0, -8, 60, 0);
    }

    /** "the margins end. It goes to y ...; y becomes its lower end with its edges; its margin at the bottom is pending". */
    private static void contextBlocks() {
        FlowBoxes x = new FlowBoxes();
        int a = box(x, 0, CONTEXT, 1, MARGIN_TOP, 3, MARGIN_BOTTOM, 4, EDGE_TOP, 1, EDGE_BOTTOM, 2, HEIGHT, 5);
        int b = box(x, 0, CONTEXT, 1, MARGIN_TOP, 7, MARGIN_BOTTOM, -1);
        int c = box(x, 0, HEIGHT, 1, MARGIN_TOP, 2);
        place("a context", x, a, 0, 3, 60, 8);
        place("an empty context ends the margins", x, b, 0, 18, 60, 0);
        place("behind it", x, c, 0, 19, 60, 1);
        int p = box(x, 0, MARGIN_TOP, 1);
        int q = box(x, p, CONTEXT, 2, MARGIN_TOP, 6);
        place("it holds what is around it", x, p, 0, 26, 60, 0);
        place("at its own top", x, q, 0, 26, 60, 0);
    }

    /** "Its content's height is then y, or the greatest lower end of its floats, if that is more, at least 0". */
    private static void contentHeights() {
        FlowBoxes x = new FlowBoxes();
        int c = box(x, 0, CONTEXT, 1);
        due("nothing", x.height(c), 0);
        int b = box(x, c, HEIGHT, 4);
        int f = box(x, c, FLOAT, 1, WIDTH, 1, HEIGHT, 1);
        due("the float ends at 5", x.height(c), 5);
        set(x, f, MARGIN_BOTTOM, -1);
        due("as y", x.height(c), 4);
        set(x, f, MARGIN_BOTTOM, -2);
        due("y is more", x.height(c), 4);
        set(x, f, MARGIN_BOTTOM, 3);
        due("its outer end", x.height(c), 8);
        set(x, c, HEIGHT, 0);
        due("0 is known", x.height(c), 0);
        set(x, c, HEIGHT, AUTO);
        x.remove(f);
        set(x, b, MARGIN_BOTTOM, 2);
        due("margins end in it", x.height(c), 6);
        set(x, b, MARGIN_TOP, -9);
        due("at least 0", x.height(c), 0);
        set(x, b, MARGIN_TOP, -5);
        due("1", x.height(c), 1);
        int p = box(x, c);
        box(x, p, FLOAT, 2, WIDTH, 1, HEIGHT, 9);
        due("a float in a block in it", x.height(c), 10);
        due("that block", x.height(p), 0);
    }

    /** "A box has a known height, if its HEIGHT is so much, or a percentage and the known height ... is known". */
    private static void knownHeights() {
        FlowBoxes x = new FlowBoxes();
        int a = box(x, 0, HEIGHT, 0);
        int b = box(x, a, HEIGHT, 1050);
        int c = box(x, b, HEIGHT, 5);
        place("half of 0 is known", x, b, 0, 0, 60, 0);
        set(x, b, HEIGHT, 1000);
        set(x, a, HEIGHT, 10);
        place("0 percent is known", x, b, 0, 0, 60, 0);
        set(x, b, HEIGHT, 1100);
        place("100 percent", x, b, 0, 0, 60, 10);
        set(x, c, HEIGHT, 1033);
        place("33 of 10, rounded down", x, c, 0, 0, 60, 3);
        set(x, b, CONTEXT, 1);
        place("of a context's", x, c, 0, 0, 60, 3);
        set(x, b, FLOAT, 1, WIDTH, 8);
        place("of a float's", x, c, 0, 0, 8, 3);
        set(x, a, HEIGHT, 1050);
        place("that of the root is unknown", x, c, 0, 0, 8, 0);
        set(x, a, HEIGHT, 10, DISPLAY, 3);
        due("a cell's percentage is unknown, its box's too", x.height(c), 0);
        set(x, c, HEIGHT, 6);
        int d = box(x, c, HEIGHT, 1050);
        due("a cell's own is known to what is in it", x.height(d), 3);
        set(x, c, HEIGHT, AUTO);
        box(x, b, HEIGHT, 8);
        due("a row's is not", x.height(d), 0);
        due("though the cell is so high", x.height(c), 8);
    }

    /** "Widths and heights are at least 0." */
    private static void atLeastZero() {
        FlowBoxes x = new FlowBoxes();
        x.page(10);
        int b = box(x, 0, MARGIN_LEFT, 6, MARGIN_RIGHT, 5);
        int c = box(x, b);
        place("auto: nothing is left", x, b, 6, 0, 0, 0);
        place("in that", x, c, 6, 0, 0, 0);
        set(x, b, MARGIN_RIGHT, 3);
        due("auto: 1 is left", x.width(c), 1);
        set(x, b, EDGE_RIGHT, 20);
        place("its edges stay", x, b, 6, 0, 20, 0);
        due("0 in it", x.width(c), 0);
        set(x, b, WIDTH, FIT);
        place("fit: nothing", x, b, 6, 0, 20, 0);
        set(x, b, CONTEXT, 1, WIDTH, AUTO);
        place("a context", x, b, 6, 0, 20, 0);
        set(x, b, FLOAT, 1);
        due("a float", x.width(c), 0);
        set(x, c, MARGIN_TOP, -5, HEIGHT, 2);
        due("a float's height", x.height(b), 0);
        due("the root's height", x.height(0), 0);
    }

    /** "A percentage is taken of what is told, divided by 100, rounded down." */
    private static void percentages() {
        FlowBoxes x = new FlowBoxes();
        int b = box(x, 0, HEIGHT, 1);
        int c = box(x, b, HEIGHT, 1);
        int[][] parts = {{1000, 0}, {1001, 0}, {1002, 1}, {1003, 1}, {1033, 19}, {1050, 30}, {1099, 59}, {1100, 60}};
        for (int[] part : parts) {
            set(x, b, WIDTH, part[0]);
            due("of 60: " + part[0], x.width(b), part[1]);
            due("told to what is in it", x.width(c), part[1]);
        }
        set(x, b, WIDTH, 7, MARGIN_LEFT, 9, EDGE_LEFT, 9);
        set(x, c, WIDTH, 1050);
        due("of 7, without margins and edges", x.width(c), 3);
        set(x, c, FLOAT, 1, WIDTH, 1099);
        due("a float", x.width(c), 6);
        set(x, c, FLOAT, 0, DISPLAY, 2, WIDTH, 1015);
        due("an inline block", x.width(c), 1);
        set(x, c, DISPLAY, 3, WIDTH, 1100);
        due("a table", x.width(c), 7);
        set(x, c, CONTEXT, 1, DISPLAY, 0, WIDTH, 1000);
        due("a context", x.width(c), 0);
        x.page(300);
        set(x, b, WIDTH, 1099);
        due("of 300", x.width(b), 9 + 297);
        set(x, c, POSITION, 2, WIDTH, 1050);
        due("an absolute box: of the root", x.width(c), 150);
        x.page(1);
        due("of 1", x.width(c), 0);
    }

    /** "What is left is w less its margins and edges at the left and right." */
    private static void whatIsLeft() {
        int[][] kinds = {{FLOAT, 1}, {FLOAT, 2}, {DISPLAY, 2}, {POSITION, 2}, {CONTEXT, 1, WIDTH, FIT}, {WIDTH, FIT}};
        for (int[] kind : kinds) {
            FlowBoxes x = new FlowBoxes();
            x.page(20);
            int b = box(x, 0, kind);
            set(x, b, MARGIN_LEFT, 3, EDGE_LEFT, 1, EDGE_RIGHT, 1, MARGIN_RIGHT, 2);
            text(x, b, 4, 5, 5, 5);
            due("13 are left: " + kind[0], x.width(b), 13 + 2);
            due("two lines: " + kind[0], x.lines(b), 2);
            set(x, b, MARGIN_RIGHT, -2);
            due("17 are left: " + kind[0], x.width(b), 17 + 2);
            due("one line: " + kind[0], x.lines(b), 1);
        }
        FlowBoxes x = new FlowBoxes();
        x.page(20);
        int b = box(x, 0, MARGIN_LEFT, -3, MARGIN_RIGHT, -4, EDGE_LEFT, 1);
        place("auto, with margins below 0", x, b, -3, 0, 27, 0);
    }

    /** "by fit the most width, but no more than what is left, and no less than the least width". */
    private static void fit() {
        FlowBoxes x = new FlowBoxes();
        int b = box(x, 0, WIDTH, FIT);
        text(x, b, 4, 5, 7);
        int[][] pages = {{300, 13}, {14, 13}, {13, 13}, {12, 12}, {8, 8}, {7, 7}, {6, 7}, {1, 7}};
        for (int[] page : pages) {
            x.page(page[0]);
            due("fit in " + page[0], x.width(b), page[1]);
        }
        set(x, b, FLOAT, 1, WIDTH, AUTO);
        for (int[] page : pages) {
            x.page(page[0]);
            due("a float's auto in " + page[0], x.width(b), page[1]);
        }
        set(x, b, FLOAT, 0);
        x.page(6);
        due("a block's auto is no fit", x.width(b), 6);
    }

    /** "its outer box, which has a width and a height above 0, has a part there that is between x and x and w". */
    private static void floatsThatReach() {
        FlowBoxes x = new FlowBoxes();
        x.page(20);
        int f = box(x, 0, FLOAT, 1, WIDTH, 5, HEIGHT, 9);
        int p = box(x, 0, MARGIN_LEFT, 5);
        int t = text(x, p, 4, 16);
        due("it ends at x", x.y(t), 0);
        set(x, f, WIDTH, 6);
        due("it has a part there", x.y(t), 9);
        set(x, f, FLOAT, 2, WIDTH, 5);
        set(x, p, MARGIN_LEFT, 0, MARGIN_RIGHT, 5);
        due("it begins at x and w", x.y(t), 0);
        set(x, f, MARGIN_LEFT, 1);
        due("its outer box has a part there", x.y(t), 9);
        set(x, f, MARGIN_LEFT, 0, HEIGHT, 0);
        set(x, p, MARGIN_RIGHT, 0);
        due("it has no height", x.y(t), 0);
        set(x, f, HEIGHT, 1);
        due("it has one", x.y(t), 1);
        set(x, f, MARGIN_LEFT, -5);
        due("its outer width is 0", x.y(t), 0);
        set(x, f, MARGIN_LEFT, -4);
        due("its outer width is 1", x.wordAt(t, 0, 0), 0);
        set(x, f, MARGIN_LEFT, 0, MARGIN_TOP, -1);
        due("its outer height is 0", x.y(t), 0);
        outerWidth0();
    }

    /** A float of the outer width 0 in the midst of the container. */
    private static void outerWidth0() {
        FlowBoxes x = new FlowBoxes();
        x.page(20);
        box(x, 0, FLOAT, 1, WIDTH, 8, HEIGHT, 2);
        int f = box(x, 0, FLOAT, 1, WIDTH, 0, HEIGHT, 9);
        int b = box(x, 0, CONTEXT, 1, WIDTH, 15);
        due("it stands there", x.x(f), 8);
        due("it is in nobody's way", x.x(b), 0);
        due("below the other one", x.y(b), 2);
        set(x, f, WIDTH, 1);
        due("now it is", x.y(b), 9);
    }

    /** "of a container of the width 0, parts on both sides of x". */
    private static void containersOfTheWidth0() {
        FlowBoxes x = new FlowBoxes();
        x.page(20);
        int f = box(x, 0, FLOAT, 1, WIDTH, 5, HEIGHT, 9);
        int p = box(x, 0, MARGIN_LEFT, 5, WIDTH, 0);
        int t = text(x, p, 4, 3);
        due("parts on the left only", x.y(t), 0);
        set(x, p, MARGIN_LEFT, 4);
        due("on both sides", x.y(t), 9);
        set(x, p, MARGIN_LEFT, 0);
        due("parts on the right only", x.y(t), 0);
        set(x, p, MARGIN_LEFT, 1);
        due("on both sides again", x.y(t), 9);
        set(x, f, WIDTH, 1);
        due("only touching", x.y(t), 0);
    }

    /** "b counts as a + 1 at least". */
    private static void flatFloats() {
        FlowBoxes x = new FlowBoxes();
        x.page(20);
        int f = box(x, 0, FLOAT, 1, WIDTH, 18, HEIGHT, 6);
        int g = box(x, 0, FLOAT, 1, WIDTH, 3, HEIGHT, 0);
        place("of the height 0", x, g, 0, 6, 3, 0);
        set(x, g, MARGIN_TOP, -10, HEIGHT, 2);
        place("of an outer height below 0", x, g, 0, -4, 3, 2);
        set(x, g, WIDTH, 2);
        place("there is room for it", x, g, 18, -10, 2, 2);
        set(x, g, WIDTH, 3, MARGIN_TOP, 0, HEIGHT, 0);
        set(x, f, HEIGHT, 0);
        place("the other one does not reach in", x, g, 0, 0, 3, 0);
        int t = text(x, 0, 4, 20);
        due("a line looks at one height", x.y(t), 0);
        lineAboveAFloat();
    }

    /** A float that begins at b does not reach in: the line at 0 is beside the first float alone. */
    private static void lineAboveAFloat() {
        FlowBoxes x = new FlowBoxes();
        x.page(20);
        box(x, 0, FLOAT, 1, WIDTH, 12, HEIGHT, 1);
        int g = box(x, 0, FLOAT, 2, WIDTH, 12, HEIGHT, 5);
        int t = text(x, 0, 4, 8);
        place("below the first", x, g, 8, 1, 12, 5);
        due("beside the first", x.x(t), 12);
        due("at its height", x.y(t), 0);
    }

    /** "A float is put at the least height, from where it was to go, and the top of the float put ahead of it ...". */
    private static void heightsTried() {
        FlowBoxes x = new FlowBoxes();
        x.page(20);
        int a = box(x, 0, FLOAT, 1, WIDTH, 6, HEIGHT, 9);
        int b = box(x, 0, FLOAT, 2, WIDTH, 6, HEIGHT, 3);
        int c = box(x, 0, FLOAT, 1, WIDTH, 6, HEIGHT, 6);
        int d = box(x, 0, FLOAT, 1, WIDTH, 2, HEIGHT, 1);
        place("2 are left", x, d, 12, 0, 2, 1);
        set(x, d, WIDTH, 3);
        place("at the least lower end, 3", x, d, 12, 3, 3, 1);
        set(x, d, WIDTH, 9);
        place("then 6", x, d, 6, 6, 9, 1);
        set(x, d, WIDTH, 15);
        place("then 9", x, d, 0, 9, 15, 1);
        set(x, d, WIDTH, 30);
        place("no float reaches in", x, d, 0, 9, 30, 1);
        set(x, c, WIDTH, 10);
        set(x, d, WIDTH, 2);
        place("the one ahead went to 3", x, c, 6, 3, 10, 6);
        place("no higher than that", x, d, 16, 3, 2, 1);
        set(x, c, FLOAT, 2, POSITION, 1, TOP, 9, MARGIN_TOP, 1);
        place("moves and margins do not count", x, d, 6, 3, 2, 1);
        set(x, a, CLEAR, 3);
        due("a float does not clear", x.y(b), 0);
        int e = box(x, 0, MARGIN_TOP, 4);
        int f = box(x, e, FLOAT, 1, WIDTH, 1, HEIGHT, 1);
        place("where it was to go is lower", x, f, 6, 4, 1, 1);
    }

    /** "It goes to the left, or right, end of the band; the top is that of its margin." */
    private static void ends() {
        FlowBoxes x = new FlowBoxes();
        x.page(20);
        int a = box(x, 0, FLOAT, 1, WIDTH, 3, HEIGHT, 3, MARGIN_TOP, 2, MARGIN_LEFT, 1, MARGIN_RIGHT, 4);
        int b = box(x, 0, FLOAT, 1, WIDTH, 3, HEIGHT, 1);
        int c = box(x, 0, FLOAT, 2, WIDTH, 3, HEIGHT, 3, MARGIN_RIGHT, 2, MARGIN_LEFT, 1);
        int d = box(x, 0, FLOAT, 2, WIDTH, 3, HEIGHT, 1);
        place("left", x, a, 1, 2, 3, 3);
        place("behind its margin", x, b, 8, 0, 3, 1);
        place("right", x, c, 15, 0, 3, 3);
        place("ahead of its margin", x, d, 11, 0, 3, 1);
        set(x, c, WIDTH, 25);
        place("too wide, to the right end", x, c, -7, 5, 25, 3);
        set(x, a, MARGIN_LEFT, -3);
        place("a margin below 0", x, a, -3, 2, 3, 3);
        place("the next one", x, b, 4, 0, 3, 1);
    }

    /** "the band of its outer height is as wide as it is (outer)". */
    private static void outerFloats() {
        FlowBoxes x = new FlowBoxes();
        x.page(20);
        int a = box(x, 0, FLOAT, 1, WIDTH, 8, HEIGHT, 3, EDGE_TOP, 1, EDGE_BOTTOM, 2, MARGIN_BOTTOM, 3, MARGIN_TOP, 1);
        int b = box(x, 0, FLOAT, 1, WIDTH, 9, HEIGHT, 3, EDGE_LEFT, 1, EDGE_RIGHT, 1, MARGIN_LEFT, 1);
        place("12 of 12", x, b, 9, 0, 11, 3);
        set(x, b, MARGIN_RIGHT, 1);
        place("13 of 12: below the outer box", x, b, 1, 10, 11, 3);
        set(x, b, MARGIN_RIGHT, -1, WIDTH, 10);
        place("13 less 1 of 12", x, b, 9, 0, 12, 3);
        int t = text(x, 0, 1, 9);
        due("a line below both", x.y(t), 3);
        due("beside the outer box", x.x(t), 8);
        int i = box(x, a, HEIGHT, 2, MARGIN_LEFT, 1);
        place("in a float from its content's top left", x, i, 1, 2, 7, 2);
        int u = text(x, b, 2, 4);
        due("a word in a float", x.x(u), 10);
    }

    /** "put at the least height tried likewise at which the band ... is as wide as its outer least width ...". */
    private static void besideFloats() {
        FlowBoxes x = new FlowBoxes();
        x.page(20);
        int f = box(x, 0, FLOAT, 1, WIDTH, 8, HEIGHT, 6);
        int b = box(x, 0, CONTEXT, 1, HEIGHT, 1, WIDTH, 1050, EDGE_LEFT, 2);
        place("10 and 2 of 12", x, b, 8, 0, 12, 1);
        set(x, b, EDGE_RIGHT, 1);
        place("10 and 3 of 12", x, b, 0, 6, 13, 1);
        set(x, b, EDGE_RIGHT, 0, WIDTH, 10);
        place("so much", x, b, 8, 0, 12, 1);
        set(x, b, WIDTH, 11);
        place("so much, and 1", x, b, 0, 6, 13, 1);
        set(x, b, WIDTH, 1000, EDGE_LEFT, 0);
        set(x, f, WIDTH, 20);
        place("no percent of it in no room", x, b, 20, 0, 0, 1);
        int t = text(x, b, 1, 5);
        place("whatever its least width is", x, b, 20, 0, 0, 1);
        x.remove(t);
        set(x, b, WIDTH, 0);
        place("the width 0 in no room", x, b, 20, 0, 0, 1);
        set(x, b, WIDTH, 1);
        place("the width 1 in no room", x, b, 0, 6, 1, 1);
        set(x, f, WIDTH, 24);
        set(x, b, WIDTH, 0, MARGIN_LEFT, -5);
        place("at least 0, so not in a room below 0", x, b, -5, 6, 0, 1);
        set(x, b, WIDTH, 1000);
        place("a percentage likewise", x, b, -5, 6, 0, 1);
        set(x, f, WIDTH, 20, HEIGHT, 0);
        set(x, b, WIDTH, AUTO, MARGIN_LEFT, 0);
        place("no float reaches in", x, b, 0, 0, 20, 1);
        bandsOfContexts();
    }

    /** "its outer left side is the left end of the band; by auto and by fit, what is left is of the band". */
    private static void bandsOfContexts() {
        FlowBoxes x = new FlowBoxes();
        x.page(20);
        box(x, 0, FLOAT, 1, WIDTH, 5, HEIGHT, 6);
        box(x, 0, FLOAT, 2, WIDTH, 3, HEIGHT, 4);
        int b = box(x, 0, CONTEXT, 1, MARGIN_LEFT, 2, MARGIN_RIGHT, 1);
        text(x, b, 2, 4, 3, 2);
        place("auto", x, b, 7, 0, 9, 4);
        set(x, b, WIDTH, FIT);
        place("fit", x, b, 7, 0, 9, 4);
        set(x, b, WIDTH, MOST);
        place("the least is no more than the band, but the most is", x, b, 7, 4, 11, 2);
        set(x, b, DISPLAY, 3, WIDTH, AUTO);
        place("a table by auto", x, b, 7, 0, 0, 0);
        set(x, b, DISPLAY, 0, WIDTH, 1050, HEIGHT, 2);
        place("a percentage is not of the band", x, b, 7, 4, 10, 2);
        set(x, b, MARGIN_RIGHT, 0);
        place("it fits", x, b, 7, 0, 10, 2);
        higherThanAFloat();
    }

    /** "It goes to y, or lower": also above the float put last. */
    private static void higherThanAFloat() {
        FlowBoxes x = new FlowBoxes();
        x.page(20);
        box(x, 0, FLOAT, 1, WIDTH, 12, HEIGHT, 3);
        int f = box(x, 0, FLOAT, 2, WIDTH, 12, HEIGHT, 5);
        int b = box(x, 0, CONTEXT, 1, WIDTH, 8);
        place("the float is lower", x, f, 8, 3, 12, 5);
        place("beside the first one", x, b, 12, 0, 8, 0);
        set(x, b, WIDTH, 9);
        place("9 beside neither: below both", x, b, 0, 8, 9, 0);
        set(x, b, WIDTH, 8, MARGIN_TOP, 1);
        place("still beside the first one", x, b, 12, 1, 8, 0);
        set(x, b, MARGIN_TOP, 3);
        place("beside the second one", x, b, 0, 3, 8, 0);
    }

    /** "what is in the line, 1 if there is something, and its width are no more than the room". */
    private static void roomOfALine() {
        FlowBoxes x = new FlowBoxes();
        int t = text(x, 0, 4, 5, 4);
        x.page(10);
        due("10 of 10", x.lines(0), 1);
        x.page(9);
        due("10 of 9", x.lines(0), 2);
        x.page(5);
        due("5 of 5", x.wordAt(t, 0, 1), 0);
        x.page(1);
        due("each stands all the same", x.lines(0), 2);
        due("from the left", x.x(t), 0);
        x.page(20);
        int f = box(x, 0, FLOAT, 1, WIDTH, 10, HEIGHT, 3);
        due("behind the run it moves no line", x.x(t), 0);
        x.remove(f);
        f = x.box(0, 0);
        set(x, f, FLOAT, 2, WIDTH, 10, HEIGHT, 3);
        due("10 of 10 beside a float", x.lines(0), 1);
        set(x, f, WIDTH, 11);
        due("10 of 9 beside a float", x.lines(0), 2);
        due("the next line", x.wordAt(t, 1, 1), 4);
    }

    /** "If the first thing does not fit into it, nor its piece, and a float reaches in there, y goes to the next ...". */
    private static void firstThings() {
        FlowBoxes x = new FlowBoxes();
        x.page(10);
        int f = box(x, 0, FLOAT, 1, WIDTH, 6, HEIGHT, 3);
        int g = box(x, 0, FLOAT, 2, WIDTH, 3, HEIGHT, 5);
        int t = x.text(0, 2, 4);
        x.word(t, 5, 2);
        due("nor its piece in 1: to 3, where it fits in 7", x.y(t), 3);
        due("on the left", x.x(t), 0);
        set(x, f, WIDTH, 4);
        due("its piece fits in 3", x.width(t), 3);
        due("so it stays", x.y(t), 0);
        due("the rest goes on at 4", x.line(0, 1, 1), 4);
        x.unword(t);
        x.word(t, 12, 0);
        due("too wide: below all", x.y(t), 5);
        set(x, f, HEIGHT, 0);
        set(x, g, HEIGHT, 0);
        due("no float reaches in", x.y(t), 0);
        set(x, f, HEIGHT, 3, WIDTH, 1);
        due("one does, and leaves 9", x.y(t), 3);
        int i = box(x, 0, DISPLAY, 2, WIDTH, 30, HEIGHT, 1);
        due("a block does not fit either", x.y(i), 7);
        x.unword(t);
        due("it is the first thing then, and the float is in its way", x.y(i), 3);
    }

    /** "a word that does not fit, but has a cut c, and fits with c + 1, leaves that piece; the rest, without a cut ...". */
    private static void cuts() {
        FlowBoxes x = new FlowBoxes();
        x.page(4);
        int t = x.text(0, 0, 4);
        x.word(t, 5, 1);
        due("a piece of 2", x.width(t), 2);
        due("a rest of 4", x.line(0, 1, 2), 4);
        x.page(2);
        due("2 of 2", x.width(t), 2);
        due("the rest is not cut", x.lines(0), 2);
        x.page(1);
        due("2 of 1: whole", x.width(t), 5);
        due("one line", x.lines(0), 1);
        x.page(5);
        due("it fits: whole", x.width(t), 5);
        x.word(t, 30, 29);
        x.page(29);
        due("a piece of 30 does not fit: whole", x.wordAt(t, 1, 2), 30);
        due("in the next line", x.wordAt(t, 1, 1), 4);
        x.unword(t);
        x.word(t, 29, 22);
        due("23 of 23, behind 5 and 1", x.wordAt(t, 1, 2), 23);
        due("the rest of 7", x.line(0, 1, 2), 7);
        x.word(t, 21, 9);
        due("7, 1 and 21 of 29", x.wordAt(t, 2, 0), 8);
        x.page(28);
        due("23 of 22: its piece in the next line", x.wordAt(t, 1, 1), 4);
        due("that piece", x.wordAt(t, 1, 2), 23);
    }

    /** "things stand one behind the other, 1 between". */
    private static void linesOfThings() {
        FlowBoxes x = new FlowBoxes();
        text(x, 0, 4, 3);
        int i = box(x, 0, DISPLAY, 2, MARGIN_LEFT, 1);
        box(x, 0, DISPLAY, 1);
        text(x, 0, 4);
        int t = text(x, 0, 4, 4);
        due("a block of the width 0 stands there", x.x(i), 5);
        due("1 behind it", x.x(t), 6);
        due("all", x.line(0, 0, 2), 10);
        set(x, i, MARGIN_LEFT, 0);
        due("0 wide, but 1 ahead and 1 behind", x.x(t), 5);
        set(x, i, EDGE_TOP, 2, EDGE_BOTTOM, 3, MARGIN_BOTTOM, 1, HEIGHT, 4);
        due("its outer height", x.line(0, 0, 4), 10);
        place("with its edges", x, i, 4, 0, 0, 9);
        due("a line in the line's box alone", x.lines(i), 0);
    }

    /** "A float met in a line that is empty is put at y; in another one at y, if its outer width is no more than ...". */
    private static void floatsInLines() {
        FlowBoxes x = new FlowBoxes();
        x.page(20);
        int e = text(x, 0, 4);
        int f = box(x, 0, FLOAT, 1, WIDTH, 30, HEIGHT, 3);
        int t = text(x, 0, 4, 5);
        place("an empty line: at y, however wide", x, f, 0, 0, 30, 3);
        due("the line goes below", x.y(t), 3);
        x.word(e, 6, 0);
        set(x, f, WIDTH, 14);
        place("14 of 20 less 6", x, f, 0, 0, 14, 3);
        due("the room is the band then", x.x(e), 14);
        due("nothing else fits", x.y(t), 4);
        set(x, f, WIDTH, 13, EDGE_RIGHT, 1, MARGIN_LEFT, 1);
        place("15 of 14", x, f, 1, 4, 14, 3);
        due("at the left", x.x(e), 0);
        due("beside what is in the line", x.x(t), 7);
        set(x, f, WIDTH, AUTO, FLOAT, 2);
        text(x, f, 2, 7, 7);
        place("fit: 15 and 2 do not", x, f, 4, 4, 16, 3);
        x.page(9);
        place("fit: the least and 2 of 9 less 6", x, f, 1, 4, 8, 3);
        x.page(15);
        x.unword(t);
        place("fit: 13 and 2 of 15 less 6", x, f, 1, 4, 14, 3);
        set(x, f, WIDTH, 7);
        place("9 of 9", x, f, 7, 0, 8, 3);
        x.unword(e);
        box(x, 0, DISPLAY, 2);
        x.remove(t);
        set(x, f, WIDTH, AUTO, FLOAT, 1);
        int i = x.box(0, 0);
        set(x, i, DISPLAY, 2);
        place("fit: 13 and 2 of 15 less 0, behind a block of the width 0", x, f, 1, 0, 14, 3);
        due("which is behind it then", x.x(i), 15);
    }

    /** "otherwise it is put as soon as the line has ended, at the new y". */
    private static void waitingFloats() {
        FlowBoxes x = new FlowBoxes();
        x.page(20);
        int t = text(x, 0, 4, 10);
        int a = box(x, 0, FLOAT, 1, WIDTH, 12, HEIGHT, 3);
        int b = box(x, 0, FLOAT, 1, WIDTH, 11, HEIGHT, 2);
        int c = box(x, 0, FLOAT, 2, WIDTH, 13, HEIGHT, 2);
        int u = text(x, 0, 4, 3);
        due("the line goes on", x.x(u), 11);
        place("the first that waits", x, a, 0, 4, 12, 3);
        place("the second", x, b, 0, 7, 11, 2);
        place("the third", x, c, 7, 9, 13, 2);
        due("all are there", x.height(0), 11);
        x.word(u, 9, 2);
        due("its piece", x.wordAt(u, 1, 2), 3);
        due("ends the line; the rest is beside the first", x.line(0, 1, 0), 12);
        due("at the new y", x.line(0, 1, 1), 4);
        due("all of it", x.line(0, 1, 2), 7);
        set(x, a, WIDTH, 14);
        due("not beside the first, so beside the second", x.line(0, 1, 0), 11);
        due("at the first one's end", x.line(0, 1, 1), 7);
        x.unword(u);
        x.unword(u);
        place("the run's end ends the line, too", x, a, 0, 4, 14, 3);
        x.unword(t);
        place("no line: at y", x, a, 0, 0, 14, 3);
    }

    /** "An absolute box has its static place at the left side of the room, more by what is in the line, and 1 if ...". */
    private static void absoluteInLines() {
        FlowBoxes x = new FlowBoxes();
        x.page(20);
        box(x, 0, FLOAT, 1, WIDTH, 3, HEIGHT, 9);
        int e = text(x, 0, 4);
        int a = box(x, 0, POSITION, 2);
        int t = text(x, 0, 4, 16);
        place("nothing in the line", x, a, 3, 0, 0, 0);
        x.word(e, 4, 0);
        place("4 and 1", x, a, 8, 0, 0, 0);
        due("the word is lower", x.y(t), 4);
        x.unword(e);
        box(x, 0, DISPLAY, 2);
        int b = box(x, 0, POSITION, 2);
        text(x, 0, 4);
        place("16, 1, 0 and 1", x, b, 21, 0, 0, 0);
        x.unword(t);
        x.word(t, 17, 0);
        place("0 and 1 in the second line", x, b, 4, 4, 0, 0);
        set(x, b, LEFT, 0);
        place("its top alone", x, b, 0, 4, 0, 0);
        absoluteAheadOfMoves();
    }

    /** The room and y are those when it is met, whatever moves the line then. */
    private static void absoluteAheadOfMoves() {
        FlowBoxes x = new FlowBoxes();
        int t = text(x, 0, 4, 5);
        int a = box(x, 0, POSITION, 2);
        int f = box(x, 0, FLOAT, 1, WIDTH, 7, HEIGHT, 2);
        int b = box(x, 0, POSITION, 2);
        text(x, 0, 4, 3);
        place("the float moves the line", x, t, 7, 0, 5, 4);
        place("but not what is ahead of the float", x, a, 6, 0, 0, 0);
        place("behind it the room is another one", x, b, 13, 0, 0, 0);
        set(x, f, FLOAT, 2);
        place("the left side is the same", x, b, 6, 0, 0, 0);
        FlowBoxes y = new FlowBoxes();
        y.page(20);
        box(y, 0, FLOAT, 1, WIDTH, 3, HEIGHT, 9);
        text(y, 0, 4);
        int c = box(y, 0, POSITION, 2);
        int w = text(y, 0, 4, 17);
        place("17 fit", y, w, 3, 0, 17, 4);
        place("ahead of them", y, c, 3, 0, 0, 0);
        y.unword(w);
        y.word(w, 18, 0);
        place("18 do not", y, w, 0, 9, 18, 4);
        place("where the empty line was", y, c, 3, 0, 0, 0);
    }

    /** "its height is both together, at least 0; its baseline is y and its ascent". */
    private static void ascents() {
        FlowBoxes x = new FlowBoxes();
        int i = box(x, 0, DISPLAY, 2, HEIGHT, 3, WIDTH, 2, MARGIN_TOP, -8);
        due("-5 and 0: at least 0", x.height(0), 0);
        due("the ascent is that", x.line(0, 0, 4), -5);
        place("its outer top is at y", x, i, 0, -8, 2, 3);
        int t = text(x, 0, 4, 2);
        due("3 and 1", x.line(0, 0, 3), 4);
        place("at the baseline, 3", x, i, 0, 0, 2, 3);
        set(x, i, SHIFT, -10);
        due("3 and 10", x.line(0, 0, 3), 13);
        place("10 lower", x, i, 0, 10, 2, 3);
        set(x, i, SHIFT, 10);
        due("5 and 1", x.line(0, 0, 3), 6);
        place("10 higher", x, i, 0, -8, 2, 3);
        due("the word at the baseline, 5", x.y(t), 2);
        set(x, i, SHIFT, 8);
        due("3 and 1 again", x.line(0, 0, 3), 4);
        due("the word at the baseline, 3", x.y(t), 0);
        set(x, i, DISPLAY, 0, SHIFT, 10);
        due("a block is not shifted", x.y(i), -8);
    }

    /** "of a text the length of its first word, or of the first piece of that"; "of a word in two pieces the first one". */
    private static void piecesOfWords() {
        FlowBoxes x = new FlowBoxes();
        x.page(7);
        int s = text(x, 0, 4, 3);
        int t = x.text(0, 1, 6);
        x.word(t, 9, 2);
        x.word(t, 2, 0);
        place("the first piece", x, t, 4, 0, 3, 6);
        due("its length", x.wordAt(t, 0, 2), 3);
        due("behind the rest", x.wordAt(t, 1, 0), 0);
        due("in the third line", x.wordAt(t, 1, 1), 12);
        x.page(60);
        place("whole", x, t, 4, 0, 9, 6);
        due("its whole length", x.wordAt(t, 0, 2), 9);
        due("one line", x.lines(0), 1);
        due("nothing is left of the rest", x.hit(1, 8), -1);
        x.unword(t);
        x.unword(t);
        throwing("no first word", 'S', () -> x.x(t));
        throwing("no word", 'I', () -> x.wordAt(t, 0, 0));
        due("the other one", x.x(s), 0);
    }
}
