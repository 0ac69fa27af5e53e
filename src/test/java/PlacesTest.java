/** Promises 10 to 17: places and sizes (place() asks 10 to 13, and 14 with each). */
public final class PlacesTest extends Check {
    public static void main(String[] args) {
        exceptions();
        margins();
        marginsAndEdges();
        emptyBlocks();
        heights();
        widths();
        floats();
        clears();
        besideFloats();
        inlineBlocks();
        tables();
        tableKinds();
        columns();
        columnBreaks();
        absoluteBoxes();
        staticPlaces();
        relativeBoxes();
        measures();
        bars();
        end("PlacesTest");
    }

    private static void exceptions() {
        FlowBoxes x = new FlowBoxes();
        int span = box(x, 0, DISPLAY, 1);
        int empty = text(x, 0, 4);
        int table = box(x, 0, DISPLAY, 3);
        int out = text(x, table, 4, 3);
        int row = box(x, table);
        int outToo = text(x, row, 4, 3);
        for (int node : new int[] {span, empty, out, outToo}) {
            int n = node;
            throwing("10 " + n, 'S', () -> x.x(n));
            throwing("11 " + n, 'S', () -> x.y(n));
            throwing("12 " + n, 'S', () -> x.width(n));
            throwing("13 " + n, 'S', () -> x.height(n));
            throwing("14 " + n, 'S', () -> x.fromNothing(n, 0));
            throwing("14 what of " + n, 'A', () -> x.fromNothing(n, 4));
        }
        for (int node : new int[] {-1, 7, 60, Integer.MIN_VALUE, Integer.MAX_VALUE}) {
            throwing("10 none", 'I', () -> x.x(node));
            throwing("11 none", 'I', () -> x.y(node));
            throwing("12 none", 'I', () -> x.width(node));
            throwing("13 none", 'I', () -> x.height(node));
            throwing("14 none", 'I', () -> x.fromNothing(node, 9));
            throwing("15 none", 'I', () -> x.least(node));
            throwing("16 none", 'I', () -> x.most(node));
            throwing("17 none", 'I', () -> x.bars(node));
        }
        throwing("14 what below 0", 'A', () -> x.fromNothing(0, -1));
        throwing("15 span", 'S', () -> x.least(span));
        throwing("16 span", 'S', () -> x.most(span));
        throwing("17 span", 'S', () -> x.bars(span));
        throwing("15 row", 'S', () -> x.least(row));
        throwing("16 row", 'S', () -> x.most(row));
        throwing("15 text", 'I', () -> x.least(out));
        throwing("16 text", 'I', () -> x.most(out));
        throwing("17 text", 'I', () -> x.bars(empty));
        due("17 row", x.bars(row), 0);
        due("17 table", x.bars(table), 0);
    }

    private static void margins() {
        FlowBoxes x = new FlowBoxes();
        x.page(30);
        int a = box(x, 0, HEIGHT, 4, MARGIN_TOP, 5, MARGIN_BOTTOM, 7);
        int b = box(x, 0, HEIGHT, 3, MARGIN_TOP, -2);
        place("margins: first", x, a, 0, 5, 30, 4);
        place("margins: 7 and -2", x, b, 0, 14, 30, 3);
        set(x, b, MARGIN_TOP, 9);
        place("margins: 7 and 9", x, b, 0, 18, 30, 3);
        set(x, b, MARGIN_BOTTOM, 4);
        due("margins: the last one ends in the context", x.height(0), 25);
        set(x, a, MARGIN_BOTTOM, -3);
        set(x, b, MARGIN_TOP, -1);
        place("margins: -3 and -1", x, b, 0, 6, 30, 3);
        set(x, a, MARGIN_TOP, -8);
        place("margins: below 0", x, a, 0, -8, 30, 4);
        set(x, b, MARGIN_BOTTOM, -10);
        due("margins: the height is 0 at least", x.height(0), 0);
    }

    private static void marginsAndEdges() {
        FlowBoxes x = new FlowBoxes();
        x.page(30);
        int p = box(x, 0, MARGIN_TOP, 3, MARGIN_BOTTOM, 6);
        int c = box(x, p, HEIGHT, 2, MARGIN_TOP, 8, MARGIN_BOTTOM, 4);
        int q = box(x, 0, HEIGHT, 1);
        place("through: parent", x, p, 0, 8, 30, 2);
        place("through: child", x, c, 0, 8, 30, 2);
        place("through: next", x, q, 0, 16, 30, 1);
        set(x, p, EDGE_TOP, 1);
        place("edge at the top: parent", x, p, 0, 3, 30, 11);
        place("edge at the top: child", x, c, 0, 12, 30, 2);
        place("edge at the top: next", x, q, 0, 20, 30, 1);
        set(x, p, EDGE_BOTTOM, 2);
        place("both edges: parent", x, p, 0, 3, 30, 17);
        place("both edges: next", x, q, 0, 26, 30, 1);
        set(x, p, EDGE_TOP, 0);
        place("edge at the bottom: parent", x, p, 0, 8, 30, 8);
        set(x, p, EDGE_BOTTOM, 0, CONTEXT, 1);
        place("context: parent", x, p, 0, 3, 30, 14);
        place("context: child", x, c, 0, 11, 30, 2);
        place("context: next", x, q, 0, 23, 30, 1);
        set(x, p, CONTEXT, 0, HEIGHT, 1);
        place("known height: parent", x, p, 0, 8, 30, 1);
        place("known height: nothing pending but its own", x, q, 0, 15, 30, 1);
        set(x, c, MARGIN_TOP, -9, HEIGHT, 0);
        set(x, p, HEIGHT, AUTO, EDGE_TOP, 5);
        place("a child above: parent", x, p, 0, 3, 30, 5);
        place("a child above: 8, and 6 and -9", x, q, 0, 5, 30, 1);
    }

    private static void emptyBlocks() {
        FlowBoxes x = new FlowBoxes();
        int e = box(x, 0, MARGIN_TOP, 5, MARGIN_BOTTOM, 9);
        int q = box(x, 0, HEIGHT, 1);
        place("empty", x, e, 0, 5, 60, 0);
        place("behind an empty one", x, q, 0, 9, 60, 1);
        set(x, e, HEIGHT, 0);
        place("height 0", x, e, 0, 5, 60, 0);
        place("behind height 0", x, q, 0, 9, 60, 1);
        set(x, e, HEIGHT, 2);
        place("height 2", x, e, 0, 5, 60, 2);
        place("behind height 2", x, q, 0, 16, 60, 1);
        set(x, e, HEIGHT, AUTO, EDGE_BOTTOM, 1);
        place("an edge at the bottom", x, e, 0, 5, 60, 1);
        place("behind that", x, q, 0, 15, 60, 1);
        set(x, e, EDGE_BOTTOM, 0);
        int in = box(x, e, MARGIN_TOP, 7);
        place("in an empty one", x, in, 0, 7, 60, 0);
        place("around that", x, e, 0, 7, 60, 0);
        int t = text(x, e, 4);
        place("with an empty text", x, e, 0, 7, 60, 0);
        x.word(t, 2, 0);
        place("with a word", x, e, 0, 7, 60, 4);
        place("behind a word", x, q, 0, 20, 60, 1);
    }

    private static void heights() {
        FlowBoxes x = new FlowBoxes();
        int p = box(x, 0, EDGE_TOP, 1, EDGE_BOTTOM, 2, HEIGHT, 9);
        int c = box(x, p, HEIGHT, 1050);
        int d = box(x, c, HEIGHT, 1100, EDGE_BOTTOM, 1);
        place("percent", x, c, 0, 1, 60, 4);
        place("percent of a percent, and an edge", x, d, 0, 1, 60, 5);
        place("known", x, p, 0, 0, 60, 12);
        set(x, p, HEIGHT, AUTO);
        place("percent of the unknown", x, c, 0, 1, 60, 1);
        set(x, p, HEIGHT, 1050);
        place("percent of the root", x, p, 0, 0, 60, 4);
        set(x, p, HEIGHT, 3);
        set(x, c, HEIGHT, 50);
        int q = box(x, 0, HEIGHT, 1);
        place("too much in it", x, c, 0, 1, 60, 50);
        place("behind too much", x, q, 0, 6, 60, 1);
        int s = box(x, c, DISPLAY, 1, HEIGHT, 7);
        int i = box(x, s, HEIGHT, 1010);
        place("percent through a span", x, i, 0, 52, 0, 5);
    }

    private static void widths() {
        FlowBoxes x = new FlowBoxes();
        x.page(40);
        int b = box(x, 0, MARGIN_LEFT, 3, MARGIN_RIGHT, 2, EDGE_LEFT, 1, EDGE_RIGHT, 1);
        text(x, b, 4, 5, 7);
        place("auto", x, b, 3, 0, 35, 4);
        set(x, b, WIDTH, 1050);
        place("half", x, b, 3, 0, 22, 4);
        set(x, b, WIDTH, 1001);
        due("a percentage is rounded down", x.width(b), 2);
        set(x, b, WIDTH, LEAST);
        place("least", x, b, 3, 0, 9, 8);
        set(x, b, WIDTH, MOST);
        place("most", x, b, 3, 0, 15, 4);
        set(x, b, WIDTH, 200);
        place("so much", x, b, 3, 0, 202, 4);
        set(x, b, WIDTH, FIT);
        place("fit is the most", x, b, 3, 0, 15, 4);
        x.page(17);
        place("fit is what is left", x, b, 3, 0, 12, 8);
        x.page(8);
        place("fit is the least", x, b, 3, 0, 9, 8);
        set(x, b, WIDTH, AUTO, MARGIN_RIGHT, 30);
        place("auto is at least 0", x, b, 3, 0, 2, 8);
        set(x, b, MARGIN_RIGHT, -30);
        place("a margin below 0", x, b, 3, 0, 35, 4);
    }

    private static void floats() {
        FlowBoxes x = new FlowBoxes();
        x.page(20);
        int a = box(x, 0, FLOAT, 1, WIDTH, 8, HEIGHT, 6);
        int b = box(x, 0, FLOAT, 1, WIDTH, 8, HEIGHT, 4);
        int c = box(x, 0, FLOAT, 1, WIDTH, 8, HEIGHT, 2);
        int d = box(x, 0, FLOAT, 2, WIDTH, 5, HEIGHT, 3);
        place("float 1", x, a, 0, 0, 8, 6);
        place("float 2", x, b, 8, 0, 8, 4);
        place("float 3", x, c, 8, 4, 8, 2);
        place("float 4", x, d, 15, 6, 5, 3);
        due("floats make the height", x.height(0), 9);
        set(x, d, WIDTH, 4);
        place("float 4 beside", x, d, 16, 4, 4, 3);
        set(x, d, HEIGHT, 0);
        place("a flat one looks at one height", x, d, 16, 4, 4, 0);
        set(x, b, WIDTH, 30);
        place("too wide", x, b, 0, 6, 30, 4);
        place("no higher than the one ahead", x, c, 0, 10, 8, 2);
        set(x, b, WIDTH, 0);
        place("of the width 0", x, b, 8, 0, 0, 4);
        place("beside the width 0", x, c, 8, 0, 8, 2);
        set(x, a, MARGIN_TOP, 1, MARGIN_RIGHT, 2, MARGIN_BOTTOM, 3, MARGIN_LEFT, 4, EDGE_TOP, 1, EDGE_LEFT, 2);
        place("with margins and edges", x, a, 4, 1, 10, 7);
        set(x, b, WIDTH, 4);
        place("beside its outer box", x, b, 16, 0, 4, 4);
        place("below its outer box", x, c, 0, 11, 8, 2);
        int p = box(x, 0, MARGIN_TOP, 3, MARGIN_LEFT, 2);
        int f = box(x, p, FLOAT, 2, WIDTH, 1, HEIGHT, 1);
        place("at what is pending, but below the one ahead", x, f, 19, 11, 1, 1);
        floatInNarrow();
    }

    private static void floatInNarrow() {
        FlowBoxes x = new FlowBoxes();
        x.page(20);
        int f = box(x, 0, FLOAT, 1, WIDTH, 5, HEIGHT, 10);
        int p = box(x, 0, MARGIN_LEFT, 8, MARGIN_TOP, 2);
        int g = box(x, p, FLOAT, 1, WIDTH, 5, HEIGHT, 3);
        place("the first does not reach in", x, g, 8, 2, 5, 3);
        place("pending stays, nothing holds it", x, p, 8, 2, 12, 0);
        set(x, f, WIDTH, 9);
        place("the first reaches in", x, g, 9, 2, 5, 3);
        set(x, p, WIDTH, 0);
        place("into the width 0", x, g, 8, 10, 5, 3);
        set(x, f, WIDTH, 8);
        place("only at the side of the width 0", x, g, 8, 2, 5, 3);
        set(x, g, WIDTH, AUTO);
        text(x, g, 4, 5, 6);
        place("fit, in the width 0", x, g, 8, 2, 6, 3);
        set(x, p, WIDTH, 20);
        place("fit", x, g, 8, 2, 12, 3);
    }

    private static void clears() {
        FlowBoxes x = new FlowBoxes();
        x.page(20);
        box(x, 0, FLOAT, 1, WIDTH, 4, HEIGHT, 6);
        box(x, 0, FLOAT, 2, WIDTH, 4, HEIGHT, 8, MARGIN_BOTTOM, 1);
        int b = box(x, 0, HEIGHT, 2, MARGIN_TOP, 3);
        place("clear none", x, b, 0, 3, 20, 2);
        set(x, b, CLEAR, 1);
        place("clear left", x, b, 0, 6, 20, 2);
        set(x, b, CLEAR, 2);
        place("clear right", x, b, 0, 9, 20, 2);
        set(x, b, CLEAR, 3);
        place("clear both", x, b, 0, 9, 20, 2);
        set(x, b, MARGIN_TOP, 12);
        place("lower than all", x, b, 0, 12, 20, 2);
        set(x, b, MARGIN_TOP, 3, CONTEXT, 1, CLEAR, 1, WIDTH, 10);
        place("a context clears", x, b, 0, 6, 10, 2);
        FlowBoxes y = new FlowBoxes();
        int c = box(y, 0, HEIGHT, 2, MARGIN_TOP, -5, CLEAR, 1);
        place("nothing to clear is 0", y, c, 0, 0, 60, 2);
        int d = box(y, 0, CLEAR, 3, MARGIN_TOP, 4);
        int e = box(y, d, HEIGHT, 1, CLEAR, 3, MARGIN_TOP, -9);
        place("y and what is pending is more", y, d, 0, 0, 60, 1);
        place("inside, too", y, e, 0, 0, 60, 1);
    }

    private static void besideFloats() {
        FlowBoxes x = new FlowBoxes();
        x.page(20);
        int f = box(x, 0, FLOAT, 1, WIDTH, 8, HEIGHT, 6);
        int b = box(x, 0, CONTEXT, 1, HEIGHT, 2);
        place("what is left of the band", x, b, 8, 0, 12, 2);
        set(x, b, WIDTH, 12);
        place("it fits", x, b, 8, 0, 12, 2);
        set(x, b, WIDTH, 13);
        place("it goes below", x, b, 0, 6, 13, 2);
        set(x, b, WIDTH, 1060);
        place("a percentage that fits", x, b, 8, 0, 12, 2);
        set(x, b, WIDTH, 1065);
        place("a percentage that does not", x, b, 0, 6, 13, 2);
        set(x, b, WIDTH, FIT, MARGIN_LEFT, 1, MARGIN_RIGHT, 1, EDGE_LEFT, 1, MARGIN_TOP, 1);
        text(x, b, 2, 5, 6);
        place("fit in the band", x, b, 9, 1, 10, 2);
        due("in two lines", x.lines(b), 2);
        set(x, b, WIDTH, MOST);
        place("the most width goes below", x, b, 1, 6, 13, 2);
        set(x, b, WIDTH, AUTO);
        set(x, f, WIDTH, 11);
        place("the least width fits", x, b, 12, 1, 7, 2);
        set(x, f, WIDTH, 12);
        place("the least width does not", x, b, 1, 6, 18, 2);
        int t = box(x, 0, DISPLAY, 3, MARGIN_TOP, -7);
        int cell = box(x, box(x, t));
        text(x, cell, 2, 8);
        place("a table beside the float", x, t, 12, 1, 8, 2);
        int plain = box(x, 0, HEIGHT, 1, MARGIN_TOP, -2);
        place("no context goes under it", x, plain, 0, 1, 20, 1);
    }

    private static void inlineBlocks() {
        FlowBoxes x = new FlowBoxes();
        x.page(20);
        int s = box(x, 0, DISPLAY, 1, WIDTH, 3, MARGIN_LEFT, 9, EDGE_TOP, 4);
        int a = box(x, s, HEIGHT, 3, EDGE_TOP, 1, MARGIN_TOP, 2, MARGIN_BOTTOM, 1, MARGIN_LEFT, 2, MARGIN_RIGHT, 1);
        int t = text(x, a, 4, 3, 4);
        place("a block in a span is an inline block", x, a, 2, 2, 8, 4);
        int b = box(x, s, DISPLAY, 3, WIDTH, 5, HEIGHT, 2);
        place("a table, too, at the baseline", x, b, 12, 5, 5, 2);
        int w = text(x, 0, 6, 2);
        due("a word at the baseline", x.y(w), 3);
        due("behind", x.x(w), 18);
        due("the descent of the word", x.height(0), 9);
        set(x, b, SHIFT, 3);
        place("shifted up", x, b, 12, 2, 5, 2);
        set(x, b, SHIFT, -10);
        place("shifted down", x, b, 12, 15, 5, 2);
        due("makes the line higher", x.height(0), 17);
        set(x, s, SHIFT, 10);
        place("the span's is added", x, b, 12, 15, 5, 2);
        due("the word is lower", x.y(w), 13);
        set(x, a, WIDTH, 1050);
        place("a percentage of the container's", x, a, 2, 2, 10, 4);
        due("the text in it", x.x(t), 2);
        set(x, a, FLOAT, 2);
        place("a float in a span", x, a, 9, 2, 10, 4);
        set(x, a, POSITION, 2, FLOAT, 0, DISPLAY, 3);
        due("an absolute table in a span", x.width(a), 10);
        throwing("its text is out", 'S', () -> x.x(t));
    }

    private static void tables() {
        FlowBoxes x = new FlowBoxes();
        int table = box(x, 0, DISPLAY, 3, EDGE_TOP, 1, EDGE_LEFT, 2, MARGIN_TOP, 3);
        int r1 = box(x, table, MARGIN_TOP, 9, EDGE_LEFT, 9, HEIGHT, 30, POSITION, 2);
        int a = box(x, r1, MARGIN_LEFT, 9, WIDTH, 50, FLOAT, 1);
        int b = box(x, r1, EDGE_LEFT, 1, EDGE_BOTTOM, 2, HEIGHT, 1);
        int r2 = box(x, table);
        int c = box(x, r2);
        text(x, a, 4, 6, 5);
        text(x, b, 2, 3);
        text(x, c, 3, 4, 2);
        place("table", x, table, 0, 3, 19, 9);
        place("row", x, r1, 2, 4, 17, 4);
        place("cell", x, a, 2, 4, 12, 4);
        place("cell beside", x, b, 15, 4, 4, 4);
        place("row below", x, r2, 2, 9, 17, 3);
        place("cell below", x, c, 2, 9, 12, 3);
        due("least of a column", x.least(table), 11);
        due("most of a column", x.most(table), 17);
        x.page(17);
        place("12 and 4 lack 2", x, a, 2, 4, 10, 8);
        place("the other has its least", x, b, 13, 4, 4, 8);
        set(x, b, HEIGHT, 20);
        place("a cell's own height", x, b, 13, 4, 4, 22);
        place("all are so high", x, a, 2, 4, 10, 22);
        set(x, b, HEIGHT, 1050);
        place("a percentage is unknown", x, b, 13, 4, 4, 8);
        set(x, table, HEIGHT, 40);
        due("its own height, if more", x.height(table), 41);
        set(x, table, HEIGHT, 2);
        due("the rows' height, if more", x.height(table), 13);
        x.page(5);
        due("at least the least width", x.width(table), 13);
        set(x, table, WIDTH, 4);
        due("so wide as is said", x.width(table), 6);
        place("the least widths all the same", x, b, 9, 4, 4, 8);
        set(x, table, WIDTH, 20, EVEN, 1);
        place("even", x, a, 2, 4, 9, 8);
        place("even too", x, b, 12, 4, 9, 8);
        due("even, the least", x.least(table), 13);
        due("even, the most", x.most(table), 25);
        set(x, table, WIDTH, 0);
        place("even of nothing", x, b, 3, 4, 1, 8);
        box(x, table);
        due("two lines in all, and a row without cells", x.height(table), 17);
    }

    private static void tableKinds() {
        FlowBoxes x = new FlowBoxes();
        int t = box(x, 0, DISPLAY, 3);
        due("no rows", x.height(t), 0);
        due("no rows, no least", x.least(t), 0);
        due("no rows, no most", x.most(t), 0);
        set(x, t, WIDTH, 10);
        int r = box(x, t);
        place("no cells", x, r, 0, 0, 10, 0);
        int[] cells = new int[3];
        int[] mosts = {4, 9, 3};
        for (int k = 0; k < 3; k++) {
            cells[k] = box(x, r);
            text(x, cells[k], 1, 1, mosts[k] - 2);
        }
        // r is 8, the least 2, 7, 1: those are more than r together.
        due("least 1", x.width(cells[0]), 2);
        due("least 2", x.width(cells[1]), 7);
        due("least 3", x.width(cells[2]), 1);
        set(x, t, WIDTH, 14);
        // r is 12, the rest 2; they lack 2, 2, 2: a third each is 0, so the first two get 1.
        due("1 of the rest", x.width(cells[0]), 3);
        due("1 more of the rest", x.width(cells[1]), 8);
        due("none of the rest", x.width(cells[2]), 1);
        set(x, t, WIDTH, 30);
        due("the most", x.width(cells[1]), 9);
        due("and no more", x.x(cells[2]), 15);
        set(x, t, FLOAT, 2, WIDTH, AUTO);
        place("a float that is a table", x, t, 42, 0, 18, 1);
        set(x, t, FLOAT, 0, DISPLAY, 2);
        due("no row any more", x.width(r), 9);
    }

    private static void columns() {
        FlowBoxes x = new FlowBoxes();
        x.page(24);
        int b = box(x, 0, COLUMNS, 2, EDGE_LEFT, 1, EDGE_TOP, 1);
        int t = text(x, b, 4, 5, 5, 5, 5, 5);
        int p = box(x, b, HEIGHT, 3, EDGE_LEFT, 2);
        // 23 less 1, by 2, is 11: a strip of lines with two words, two, and one, and the block.
        place("columns", x, b, 0, 0, 24, 9);
        due("first line", x.line(b, 0, 0), 1);
        due("third line", x.line(b, 2, 0), 13);
        due("third line's top", x.line(b, 2, 1), 1);
        due("a word goes with its line", x.wordAt(t, 4, 0), 13);
        due("its top", x.wordAt(t, 4, 1), 1);
        place("the block", x, p, 13, 5, 11, 3);
        due("least", x.least(b), 11);
        due("most", x.most(b), 59);
        set(x, b, HEIGHT, 4);
        place("more columns than said", x, p, 37, 1, 11, 3);
        place("its own height", x, b, 0, 0, 24, 5);
        set(x, b, HEIGHT, 0);
        place("no height", x, p, 37, 1, 11, 3);
        set(x, b, HEIGHT, AUTO, COLUMNS, 4, WIDTH, 2);
        due("a column is 1 wide at least", x.width(p), 2);
        due("four columns at most", x.line(b, 4, 0), 5);
        int inner = box(x, p, COLUMNS, 3, HEIGHT, 2);
        due("columns in columns count as 1", x.most(inner), 0);
        set(x, b, COLUMNS, 1);
        due("not in columns", x.most(inner), 2);
        FlowBoxes y = new FlowBoxes();
        int e = box(y, 0, COLUMNS, 3);
        place("nothing in columns", y, e, 0, 0, 60, 0);
        set(y, e, HEIGHT, 7);
        place("nothing in high columns", y, e, 0, 0, 60, 7);
    }

    private static void columnBreaks() {
        FlowBoxes x = new FlowBoxes();
        x.page(21);
        int b = box(x, 0, COLUMNS, 2);
        int f = box(x, b, FLOAT, 1, WIDTH, 3, HEIGHT, 6, MARGIN_TOP, 1);
        int c = box(x, b, CONTEXT, 1, HEIGHT, 4);
        int d = box(x, b, CONTEXT, 1, HEIGHT, 4, MARGIN_TOP, 2);
        int e = box(x, b, HEIGHT, 2);
        // The strip: float 0 to 7, c 0 to 4, d 6 to 10, e (no context, broken at will) 10 to 12.
        // 7 is no break place for d, 4 and 6 none for the float: 0, 10, 12 are left.
        place("in the first column: the float", x, f, 0, 1, 3, 6);
        place("in the first column: beside it", x, c, 3, 0, 7, 4);
        place("in the first column: d", x, d, 3, 6, 7, 4);
        place("in the second column", x, e, 11, 0, 10, 2);
        due("with the height 1 there are two columns, too", x.height(b), 1);
        set(x, f, MARGIN_TOP, 0);
        // Now the float ends at 6, where d begins.
        place("d in the second column", x, d, 11, 0, 10, 4);
        place("e below it", x, e, 11, 4, 10, 2);
        due("so high then", x.height(b), 6);
        int a = box(x, e, POSITION, 2);
        place("a static place in the strip", x, a, 11, 4, 0, 0);
        int neg = box(x, b, HEIGHT, 1, MARGIN_TOP, -40, MARGIN_BOTTOM, 40);
        place("above all is in the first column", x, neg, 0, -28, 10, 1);
    }

    private static void absoluteBoxes() {
        FlowBoxes x = new FlowBoxes();
        int p = box(x, 0, POSITION, 1, MARGIN_LEFT, 5, EDGE_LEFT, 1, EDGE_TOP, 2, HEIGHT, 10, WIDTH, 20, LEFT, 3, TOP, 4);
        place("relative", x, p, 8, 4, 21, 12);
        int q = box(x, p, MARGIN_LEFT, 2, CONTEXT, 1);
        int a = box(x, q, POSITION, 2, WIDTH, 1050, HEIGHT, 1050, LEFT, 1, TOP, -3);
        place("in the nearest one around", x, a, 10, 3, 10, 5);
        set(x, a, MARGIN_LEFT, 2, MARGIN_TOP, 1, EDGE_LEFT, 1, EDGE_BOTTOM, 1);
        place("by its margin", x, a, 12, 4, 11, 6);
        set(x, a, LEFT, -1000);
        place("left by itself", x, a, 13, 4, 11, 6);
        set(x, a, TOP, -1000);
        place("top by itself", x, a, 13, 7, 11, 6);
        set(x, p, POSITION, 0);
        place("in the root", x, a, 10, 3, 31, 1);
        set(x, a, LEFT, 30, TOP, 200);
        place("from the root", x, a, 32, 201, 31, 1);
        due("it makes nothing higher", x.height(0), 12);
        set(x, a, WIDTH, AUTO);
        text(x, a, 4, 30, 30);
        place("fit in the root", x, a, 32, 201, 58, 9);
        int in = box(x, a, POSITION, 2, LEFT, 0, TOP, 0, HEIGHT, 1100, WIDTH, 1100);
        place("in an absolute box of unknown height", x, in, 33, 201, 57, 0);
        set(x, a, HEIGHT, 3);
        place("in an absolute box", x, in, 33, 201, 57, 3);
        set(x, a, DISPLAY, 3);
        due("an absolute table: in it is a row", x.width(in), 0);
    }

    private static void staticPlaces() {
        FlowBoxes x = new FlowBoxes();
        x.page(20);
        int f = box(x, 0, FLOAT, 1, WIDTH, 4, HEIGHT, 9);
        int p = box(x, 0, MARGIN_TOP, 2, MARGIN_LEFT, 1);
        int a = box(x, p, POSITION, 2, WIDTH, 1, HEIGHT, 1);
        place("y and what is pending", x, a, 1, 2, 1, 1);
        int t = text(x, p, 4, 3);
        int b = box(x, p, POSITION, 2, WIDTH, 1, HEIGHT, 1);
        place("behind a run", x, b, 1, 6, 1, 1);
        int u = text(x, p, 4, 2);
        place("in a line", x, b, 8, 2, 1, 1);
        int s = x.box(p, 1);
        set(x, s, DISPLAY, 1);
        int c = box(x, s, POSITION, 2, WIDTH, 1, HEIGHT, 1);
        place("ahead in a line", x, c, 4, 2, 1, 1);
        place("ahead of a run", x, a, 1, 2, 1, 1);
        x.remove(t);
        x.remove(u);
        x.remove(b);
        place("in a run without words", x, c, 1, 2, 1, 1);
        set(x, p, POSITION, 1, LEFT, 2, TOP, 1);
        place("moved with what is around", x, c, 3, 3, 1, 1);
        due("the float stays", x.y(f), 0);
    }

    private static void relativeBoxes() {
        FlowBoxes x = new FlowBoxes();
        x.page(20);
        int f = box(x, 0, FLOAT, 1, WIDTH, 4, HEIGHT, 2, POSITION, 1, LEFT, 5);
        int t = text(x, 0, 2, 3);
        place("a float is moved", x, f, 5, 0, 4, 2);
        due("where it was counts", x.x(t), 4);
        int p = box(x, 0, POSITION, 1, TOP, -3);
        int u = text(x, p, 2, 6);
        int i = box(x, p, DISPLAY, 2, WIDTH, 2, HEIGHT, 2, POSITION, 1, LEFT, 1, TOP, 1);
        place("a block is moved", x, p, 0, -1, 20, 3);
        due("with its words", x.y(u), 0);
        due("with its lines", x.line(p, 0, 1), -1);
        place("an inline block is moved with it", x, i, 8, 0, 2, 2);
        int s = box(x, 0, DISPLAY, 1, POSITION, 1, LEFT, 9);
        int v = text(x, s, 2, 1);
        due("a span is not moved", x.x(v), 0);
        due("nor what is behind a moved block", x.y(v), 5);
        set(x, p, TOP, -1000);
        place("auto is 0", x, p, 0, 2, 20, 3);
    }

    private static void measures() {
        FlowBoxes x = new FlowBoxes();
        int b = box(x, 0);
        int t = text(x, b, 4, 5);
        x.word(t, 9, 3);
        due("15 a cut", x.least(b), 6);
        x.word(t, 9, 7);
        due("15 a late cut", x.least(b), 8);
        due("16 a run", x.most(b), 25);
        int f = box(x, b, FLOAT, 1, WIDTH, 10, MARGIN_LEFT, 2);
        due("15 a float", x.least(b), 12);
        due("16 a float behind a run", x.most(b), 25);
        int u = text(x, b, 4);
        due("16 a float in a run", x.most(b), 38);
        int i = box(x, b, DISPLAY, 2, EDGE_LEFT, 1, MARGIN_RIGHT, 3);
        text(x, i, 4, 4, 4);
        due("15 an inline block", x.least(b), 12);
        due("16 an inline block", x.most(b), 52);
        set(x, i, WIDTH, LEAST);
        due("16 of its least width", x.most(b), 47);
        set(x, i, WIDTH, MOST);
        due("15 of its most width", x.least(b), 13);
        set(x, i, WIDTH, 1050);
        due("15 a percentage is the least", x.least(b), 12);
        set(x, i, WIDTH, 1, MARGIN_RIGHT, -40);
        due("16 an outer width is at least 0", x.most(b), 39);
        set(x, i, DISPLAY, 0, WIDTH, 70);
        due("15 a block", x.least(b), 31);
        due("16 the run is more than a block", x.most(b), 38);
        set(x, b, COLUMNS, 3);
        due("15 columns", x.least(b), 95);
        due("16 columns", x.most(b), 116);
        set(x, f, POSITION, 2);
        x.remove(i);
        x.remove(u);
        set(x, b, COLUMNS, 1);
        due("15 an absolute box counts for nothing", x.least(b), 8);
        due("16 an absolute box counts for nothing", x.most(b), 25);
        due("15 of the root", x.least(0), 8);
    }

    private static void bars() {
        FlowBoxes x = new FlowBoxes();
        int b = box(x, 0, CONTEXT, 2, WIDTH, 10, HEIGHT, 6);
        int c = box(x, b, HEIGHT, 6);
        due("17 no bar", x.bars(b), 0);
        set(x, c, HEIGHT, 7, WIDTH, 1070);
        due("17 upright", x.bars(b), 1);
        place("of 8", x, c, 0, 0, 5, 7);
        place("the box itself", x, b, 0, 0, 10, 6);
        set(x, c, WIDTH, AUTO);
        due("17 upright, and at once beyond 8", x.bars(b), 3);
        place("8 is left", x, c, 0, 0, 8, 7);
        set(x, c, WIDTH, 8);
        due("17 just in it", x.bars(b), 1);
        set(x, c, WIDTH, 9);
        due("17 both", x.bars(b), 3);
        set(x, c, HEIGHT, 5);
        due("17 none", x.bars(b), 0);
        set(x, c, WIDTH, 11);
        due("17 flat, and so upright", x.bars(b), 3);
        set(x, c, HEIGHT, 4);
        due("17 flat", x.bars(b), 2);
        set(x, b, HEIGHT, AUTO);
        place("2 more", x, b, 0, 0, 10, 6);
        set(x, c, FLOAT, 1, MARGIN_RIGHT, -1);
        due("17 a float's outer end", x.bars(b), 0);
        set(x, c, POSITION, 1, LEFT, 50);
        due("17 not moved", x.bars(b), 0);
        set(x, c, POSITION, 2, LEFT, 20);
        due("17 not counted", x.bars(b), 0);
        text(x, b, 4, 11);
        due("17 a line", x.bars(b), 2);
        set(x, b, COLUMNS, 2);
        due("17 columns", x.bars(b), 0);
        set(x, b, COLUMNS, 1, CONTEXT, 1);
        due("17 closed", x.bars(b), 0);
        set(x, b, CONTEXT, 2, DISPLAY, 3);
        due("17 a table", x.bars(b), 0);
        nestedBars();
    }

    private static void nestedBars() {
        FlowBoxes x = new FlowBoxes();
        int[] boxes = new int[4];
        int at = 0;
        for (int k = 0; k < 4; k++) {
            at = box(x, at, CONTEXT, 2, HEIGHT, 3, WIDTH, 20 - k);
            boxes[k] = at;
        }
        text(x, at, 4, 2);
        due("17 the third is in two", x.bars(boxes[2]), 0);
        due("17 the fourth, too", x.bars(boxes[3]), 0);
        due("17 the second", x.bars(boxes[1]), 0);
        set(x, boxes[2], HEIGHT, 4, WIDTH, 16);
        due("17 the second is in one", x.bars(boxes[1]), 1);
        due("17 the first", x.bars(boxes[0]), 0);
        set(x, boxes[0], CONTEXT, 0);
        set(x, boxes[1], HEIGHT, AUTO);
        due("17 now the third is in one: flat, and so upright", x.bars(boxes[2]), 3);
        due("17 the fourth is in two", x.bars(boxes[3]), 0);
        set(x, boxes[3], WIDTH, 3);
        due("17 the third has none", x.bars(boxes[2]), 0);
        set(x, boxes[2], HEIGHT, 2);
        due("17 the third has one", x.bars(boxes[2]), 1);
    }
}
