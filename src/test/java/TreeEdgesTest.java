/**
 * The sentences of the document that name a boundary, a test each: the tree, what nodes are, least and most
 * widths, and refused calls (promises 1 to 9, 14 to 16, 19, 20).
 */
public final class TreeEdgesTest extends Check {
    public static void main(String[] args) {
        sixtyEver();
        twentyDeep();
        twentyWords();
        lengthsAndCuts();
        sizes();
        goneWithAllInIt();
        firstException();
        refusedCallsChangeNothing();
        rowsAndCells();
        outTexts();
        kindsInOrder();
        withinSpans();
        spanStyles();
        contexts();
        columnsInColumns();
        leastOfWords();
        mostOfRuns();
        floatsInAndOutOfRuns();
        outerWidths();
        measuresInColumns();
        measuresOfTables();
        veryWide();
        end("TreeEdgesTest");
    }

    /** "Nodes are numbered from 0 as they are made, at most 60 ever": those that are gone count. */
    private static void sixtyEver() {
        FlowBoxes x = new FlowBoxes();
        for (int node = 1; node < 60; node++) {
            due("numbered as made", node % 2 == 0 ? x.box(0, 0) : x.text(0, 0, 4), node);
            if (node < 59) due("gone", x.remove(node), 1);
        }
        int work = x.work();
        throwing("a box after 60", 'S', () -> x.box(0, 0));
        throwing("a text after 60", 'S', () -> x.text(0, 1, 20));
        due("two are there", x.painted(), 2);
        due("nothing changed", x.work(), work);
        due("the last one", x.remove(59), 1);
        throwing("a box after 60, none there", 'S', () -> x.box(0, 0));
        throwing("the last one is gone", 'I', () -> x.remove(59));
    }

    /** "it would be more than 20 deep, the root being 0 deep"; a context may be as deep as that. */
    private static void twentyDeep() {
        FlowBoxes x = new FlowBoxes();
        int at = 0;
        for (int depth = 1; depth < 20; depth++) {
            at = box(x, at, FLOAT, 1, EDGE_LEFT, 1, EDGE_BOTTOM, 1);
        }
        int deepest = box(x, at, DISPLAY, 2, WIDTH, 3, HEIGHT, 2, EDGE_TOP, 1, EDGE_RIGHT, 2);
        int text = text(x, at, 4, 5);
        place("20 deep", x, deepest, 19, 0, 5, 3);
        due("a text 20 deep", x.x(text), 25);
        due("around all", x.height(0), 4 + 19);
        throwing("a box 21 deep", 'S', () -> x.box(deepest, 0));
        throwing("a text 21 deep", 'S', () -> x.text(deepest, 0, 4));
        due("nothing came", x.children(deepest), 0);
        due("all but the inline block", x.latest(), 20);
        set(x, deepest, Z, 1);
        due("and that", x.latest(), 21);
    }

    /** "a text, which has at most 20 words". */
    private static void twentyWords() {
        FlowBoxes x = new FlowBoxes();
        int t = x.text(0, 0, 4);
        for (int k = 1; k <= 20; k++) due("a word", x.word(t, 30, 1 + k), k);
        int work = x.work();
        throwing("the 21st", 'S', () -> x.word(t, 1, 0));
        due("nothing changed", x.work(), work);
        due("the last one goes", x.unword(t), 19);
        due("there is room again", x.word(t, 3, 0), 20);
        due("it is the last one", x.wordAt(t, 19, 2), 3);
        x.page(1);
        due("each word cut in two, but the last", x.lines(0), 20);
        x.page(32);
        due("all 20 least widths", x.least(0), 28);
        for (int k = 19; k >= 0; k--) due("one goes", x.unword(t), k);
        throwing("none is left", 'S', () -> x.unword(t));
        due("none, no line", x.lines(0), 0);
    }

    /** "each with a length 1 to 30, and a cut behind some letters or none". */
    private static void lengthsAndCuts() {
        FlowBoxes x = new FlowBoxes();
        int t = x.text(0, 0, 4);
        int[][] good = {{1, 0}, {30, 0}, {2, 1}, {30, 1}, {30, 29}};
        int[][] bad = {{0, 0}, {31, 0}, {-1, 0}, {0, -1}, {1, 1}, {2, 2}, {30, 30}, {5, -1}, {5, 6}, {31, 30},
            {Integer.MIN_VALUE, 0}, {Integer.MAX_VALUE, 1}, {7, Integer.MIN_VALUE}, {7, Integer.MAX_VALUE}};
        for (int[] word : good) throwing("a word " + word[0] + ", " + word[1], '-', () -> x.word(t, word[0], word[1]));
        for (int[] word : bad) throwing("no word " + word[0] + ", " + word[1], 'A', () -> x.word(t, word[0], word[1]));
        due("only the good ones", x.unword(t), 4);
    }

    /** "a size, 1 to 20. A text's ascent is 3 times its size divided by 4, rounded down, its descent the rest". */
    private static void sizes() {
        int[] ascents = {0, 1, 2, 3, 3, 4, 5, 6, 6, 7, 8, 9, 9, 10, 11, 12, 12, 13, 14, 15};
        for (int size = 1; size <= 20; size++) {
            FlowBoxes x = new FlowBoxes();
            int t = text(x, 0, size, 5);
            due("a text's height", x.height(t), size);
            due("a line's height", x.line(0, 0, 3), size);
            due("its ascent", x.line(0, 0, 4), ascents[size - 1]);
            int under = box(x, 0, DISPLAY, 2, HEIGHT, 20, WIDTH, 1);
            due("the descent is below", x.height(0), 20 + size - ascents[size - 1]);
            due("the ascent is above", x.y(t), 20 - ascents[size - 1]);
            due("the block", x.y(under), 0);
        }
        FlowBoxes x = new FlowBoxes();
        for (int size : new int[] {0, 21, -1, Integer.MIN_VALUE, Integer.MAX_VALUE}) {
            throwing("no size " + size, 'A', () -> x.text(0, 0, size));
        }
    }

    /** "A node that is removed is gone with all that is in it": no call knows it. */
    private static void goneWithAllInIt() {
        FlowBoxes x = new FlowBoxes();
        int b = box(x, 0, HEIGHT, 9);
        int in = box(x, b, POSITION, 2, WIDTH, 50, HEIGHT, 50);
        int t = text(x, in, 4, 5);
        int stays = box(x, 0, HEIGHT, 2);
        due("hit", x.hit(3, 3), t);
        due("three go", x.remove(b), 3);
        for (int node : new int[] {b, in, t}) {
            throwing("box", 'I', () -> x.box(node, 0));
            throwing("text", 'I', () -> x.text(node, 0, 0));
            throwing("word", 'I', () -> x.word(node, 0, 0));
            throwing("unword", 'I', () -> x.unword(node));
            throwing("remove", 'I', () -> x.remove(node));
            throwing("children", 'I', () -> x.children(node));
            throwing("style", 'I', () -> x.style(node, 99, 0));
            throwing("x", 'I', () -> x.x(node));
            throwing("y", 'I', () -> x.y(node));
            throwing("width", 'I', () -> x.width(node));
            throwing("height", 'I', () -> x.height(node));
            throwing("fromNothing", 'I', () -> x.fromNothing(node, 9));
            throwing("least", 'I', () -> x.least(node));
            throwing("most", 'I', () -> x.most(node));
            throwing("bars", 'I', () -> x.bars(node));
            throwing("lines", 'I', () -> x.lines(node));
            throwing("line", 'I', () -> x.line(node, 0, 9));
            throwing("wordAt", 'I', () -> x.wordAt(node, 0, 9));
        }
        order("what stays", x, 0, stays);
        due("not hit", x.hit(3, 3), -1);
        due("not in the way", x.y(stays), 0);
    }

    /** "of several exceptions it is the first one of the throws clause". */
    private static void firstException() {
        FlowBoxes x = new FlowBoxes();
        int t = text(x, 0, 4);
        for (int k = 0; k < 20; k++) x.word(t, 1, 0);
        int table = box(x, 0, DISPLAY, 3);
        int out = text(x, table, 4, 2);
        int span = box(x, 0, DISPLAY, 1);
        for (int node = 5; node < 60; node++) x.box(0, 0);
        throwing("text: place, size and 60", 'I', () -> x.text(0, -1, 0));
        throwing("text: size and 60", 'A', () -> x.text(0, 0, 0));
        throwing("box: place and 60", 'I', () -> x.box(0, -1));
        throwing("word: text and length", 'I', () -> x.word(60, 0, 0));
        throwing("word: length and 20", 'A', () -> x.word(t, 0, 0));
        throwing("word: cut and 20", 'A', () -> x.word(t, 3, 3));
        throwing("style: box and style", 'I', () -> x.style(t, -1, 0));
        throwing("style: style and root", 'A', () -> x.style(0, -1, 0));
        throwing("style: value and root", 'A', () -> x.style(0, 20, 2));
        throwing("fromNothing: node and what", 'I', () -> x.fromNothing(-1, -1));
        throwing("fromNothing: what and span", 'A', () -> x.fromNothing(span, 4));
        throwing("fromNothing: what and out", 'A', () -> x.fromNothing(out, -1));
        throwing("line: box and what", 'I', () -> x.line(t, 0, 9));
        throwing("line: line and what", 'I', () -> x.line(0, 20, 5));
        throwing("line: the state goes ahead of the line", 'S', () -> x.line(span, 20, 4));
        throwing("line: the state goes ahead of the line below 0", 'S', () -> x.line(table, -1, 0));
        throwing("wordAt: word and what", 'I', () -> x.wordAt(t, 20, 3));
        throwing("wordAt: word and out", 'I', () -> x.wordAt(out, 1, 0));
        throwing("wordAt: what and out", 'A', () -> x.wordAt(out, 0, -1));
    }

    /** "When a call throws, nothing has changed". */
    private static void refusedCallsChangeNothing() {
        FlowBoxes x = new FlowBoxes();
        int t = text(x, 0, 4, 5, 7);
        int b = box(x, 0, FLOAT, 1, WIDTH, 9, HEIGHT, 3);
        int at = b;
        for (int depth = 2; depth <= 20; depth++) at = x.box(at, 0);
        int deepest = at;
        int empty = x.text(0, 0, 4);
        int span = box(x, 0, DISPLAY, 1);
        String before = all(x);
        int work = x.work();
        int latest = x.latest();
        throwing("box: place", 'I', () -> x.box(0, 5));
        throwing("box: deep", 'S', () -> x.box(deepest, 0));
        throwing("text: place", 'I', () -> x.text(b, 2, 4));
        throwing("text: size", 'A', () -> x.text(b, 0, 21));
        throwing("text: deep", 'S', () -> x.text(deepest, 0, 4));
        throwing("word: a box", 'I', () -> x.word(b, 4, 0));
        throwing("word: length", 'A', () -> x.word(t, 31, 0));
        throwing("unword: a box", 'I', () -> x.unword(b));
        throwing("unword: none", 'S', () -> x.unword(empty));
        throwing("remove: none", 'I', () -> x.remove(59));
        throwing("remove: the root", 'S', () -> x.remove(0));
        throwing("children: a text", 'I', () -> x.children(t));
        throwing("style: a text", 'I', () -> x.style(t, WIDTH, 3));
        throwing("style: value", 'A', () -> x.style(b, WIDTH, 201));
        throwing("style: the root", 'S', () -> x.style(0, CONTEXT, 2));
        throwing("page: 0", 'A', () -> x.page(0));
        throwing("page: 301", 'A', () -> x.page(301));
        throwing("x: a span", 'S', () -> x.x(span));
        throwing("paint: none", 'I', () -> x.paint(x.painted()));
        due("no work", x.work(), work);
        due("the latest change is still that", x.latest(), latest);
        same("nothing changed", all(x), before);
        due("no number was used", x.box(0, 0), span + 1);
    }

    /** "Of rows and cells the margins, ... count as they are at first; of rows the edges and HEIGHT, too." */
    private static void rowsAndCells() {
        FlowBoxes x = new FlowBoxes();
        x.page(30);
        box(x, 0, FLOAT, 1, WIDTH, 5, HEIGHT, 3);
        int table = box(x, 0, DISPLAY, 3, MARGIN_LEFT, 2, EDGE_TOP, 1);
        int row = box(x, table);
        int cell = box(x, row, HEIGHT, 5, EDGE_LEFT, 2);
        text(x, cell, 4, 5, 3);
        box(x, cell, WIDTH, 3, HEIGHT, 9, MARGIN_TOP, 2);
        text(x, box(x, row), 4, 5, 7);
        text(x, box(x, box(x, table)), 2, 9);
        int[][] none = {{DISPLAY, 1, 2, 3}, {FLOAT, 1, 2}, {CLEAR, 1, 2, 3}, {POSITION, 1, 2}, {WIDTH, -4, -3, -2, 0, 9, 1050},
            {MARGIN_TOP, -40, 40}, {MARGIN_RIGHT, -40, 40}, {MARGIN_BOTTOM, -40, 40}, {MARGIN_LEFT, -40, 40},
            {CONTEXT, 1, 2}, {Z, -9, 9}, {SHIFT, -10, 10}, {COLUMNS, 2, 4}};
        String before = all(x);
        for (int[] style : none) {
            countsNot(x, cell, style, before);
            countsNot(x, row, style, before);
        }
        int[][] rows = {{EDGE_TOP, 20}, {EDGE_RIGHT, 20}, {EDGE_BOTTOM, 20}, {EDGE_LEFT, 20}, {HEIGHT, 0, 50, 1050}};
        for (int[] style : rows) countsNot(x, row, style, before);
        due("as high as the other cell", x.height(cell), 8);
        set(x, cell, HEIGHT, 9);
        due("a cell's HEIGHT counts", x.height(cell), 9);
        set(x, cell, EDGE_BOTTOM, 2);
        due("a cell's edges count", x.height(cell), 11);
        set(x, cell, POSITION, 1, LEFT, 7, TOP, 7, Z, -1);
        due("a cell is not moved", x.x(cell), x.x(row));
        set(x, row, POSITION, 2, LEFT, 7, TOP, 7);
        due("a row is not moved", x.x(row), x.x(table));
        order("a row is no stack", x, 0, 2, 3, 4, 6, 7, 9, 10, 1, 5, 8, 11);
    }

    private static void countsNot(FlowBoxes x, int box, int[] style, String before) {
        int first = x.style(box, style[0], style[1]);
        for (int k = 1; k < style.length; k++) {
            x.style(box, style[0], style[k]);
            same(box + ": " + style[0] + " does not count as " + style[k], all(x), before);
        }
        x.style(box, style[0], first);
    }

    /** "texts in tables and rows, and what is in them, are out: they have no place, and count for nothing". */
    private static void outTexts() {
        FlowBoxes x = new FlowBoxes();
        int table = box(x, 0, DISPLAY, 3);
        int row = box(x, table);
        int cell = box(x, row);
        text(x, cell, 4, 5);
        place("without", x, table, 0, 0, 5, 4);
        int a = x.text(table, 0, 20);
        int b = x.text(row, 0, 20);
        int c = x.text(row, 2, 20);
        for (int out : new int[] {a, b, c}) {
            x.word(out, 30, 3);
            throwing("no x", 'S', () -> x.x(out));
            throwing("no y", 'S', () -> x.y(out));
            throwing("no width", 'S', () -> x.width(out));
            throwing("no height", 'S', () -> x.height(out));
            throwing("none from nothing", 'S', () -> x.fromNothing(out, 0));
            throwing("no word", 'S', () -> x.wordAt(out, 0, 0));
        }
        place("they count for nothing", x, table, 0, 0, 5, 4);
        place("the cell", x, cell, 0, 0, 5, 4);
        due("least", x.least(table), 5);
        due("most", x.most(table), 5);
        due("they are children all the same", x.children(row), 3);
        due("not painted", x.painted(), 5);
        x.style(table, DISPLAY, 0);
        due("in again", x.x(a), 0);
        due("in a row no more", x.width(b), 30);
    }

    /** "absolute, if its POSITION is 2; otherwise it floats, if its FLOAT is not 0. Otherwise ... its DISPLAY". */
    private static void kindsInOrder() {
        FlowBoxes x = new FlowBoxes();
        int b = box(x, 0, WIDTH, 9, HEIGHT, 5, DISPLAY, 1, FLOAT, 1, POSITION, 2);
        int t = text(x, 0, 4, 3);
        due("absolute: nothing moves", x.x(t), 0);
        due("absolute: no span", x.width(b), 9);
        set(x, b, POSITION, 1);
        due("a float", x.x(t), 9);
        set(x, b, FLOAT, 2);
        due("a float on the right", x.x(b), 51);
        set(x, b, FLOAT, 0);
        throwing("a span", 'S', () -> x.x(b));
        due("a span: nothing moves", x.x(t), 0);
        set(x, b, DISPLAY, 2);
        due("an inline block", x.x(t), 10);
        set(x, b, DISPLAY, 0);
        due("a block", x.y(t), 5);
        set(x, b, DISPLAY, 3);
        throwing("a table", 'S', () -> x.lines(b));
        due("a table is a block", x.y(t), 5);
        set(x, b, FLOAT, 1);
        throwing("a float that is a table", 'S', () -> x.lines(b));
        set(x, b, POSITION, 2);
        throwing("an absolute box that is a table", 'S', () -> x.lines(b));
        set(x, b, DISPLAY, 2);
        due("an absolute box that is none", x.lines(b), 0);
    }

    /** "what is within a span (not within an inline block, a float or an absolute box in that) ...". */
    private static void withinSpans() {
        FlowBoxes x = new FlowBoxes();
        int span = box(x, 0, DISPLAY, 1);
        int inner = box(x, span, DISPLAY, 1);
        int b = box(x, inner, EDGE_LEFT, 1);
        int in = box(x, b);
        place("a block in a span's span is an inline block", x, b, 0, 0, 1, 0);
        place("in that is a block", x, in, 1, 0, 0, 0);
        set(x, b, WIDTH, 20);
        due("as wide as it is", x.width(in), 20);
        set(x, b, DISPLAY, 3);
        due("a table in a span is an inline block, and no table", x.lines(b), 0);
        due("so in it is no row", x.least(in), 0);
        for (int kind : new int[] {FLOAT, POSITION}) {
            set(x, b, kind, 2);
            throwing("a float or an absolute box is a table", 'S', () -> x.lines(b));
            throwing("so in it is a row", 'S', () -> x.least(in));
            set(x, b, DISPLAY, 0);
            due("a block in it", x.width(in), 20);
            set(x, in, DISPLAY, 3);
            throwing("a table in it is a table", 'S', () -> x.lines(in));
            set(x, in, DISPLAY, 0);
            set(x, b, DISPLAY, 3, kind, 0);
        }
    }

    /** "Of a span the WIDTH, HEIGHT, margins, edges, CLEAR, COLUMNS, CONTEXT, Z, and POSITION count as ... at first." */
    private static void spanStyles() {
        FlowBoxes x = new FlowBoxes();
        x.page(30);
        box(x, 0, FLOAT, 1, WIDTH, 5, HEIGHT, 9);
        text(x, 0, 4, 5, 7);
        int span = box(x, 0, DISPLAY, 1, LEFT, 9, TOP, 9);
        text(x, span, 6, 9, 3);
        box(x, span, WIDTH, 1050, HEIGHT, 1050);
        box(x, span, POSITION, 2, WIDTH, 3, HEIGHT, 3);
        text(x, 0, 4, 5, 8);
        int[][] none = {{CLEAR, 1, 2, 3}, {POSITION, 1}, {WIDTH, -4, -3, -2, 0, 9, 1050}, {HEIGHT, 0, 50, 1050},
            {MARGIN_TOP, -40, 40}, {MARGIN_RIGHT, -40, 40}, {MARGIN_BOTTOM, -40, 40}, {MARGIN_LEFT, -40, 40},
            {EDGE_TOP, 20}, {EDGE_RIGHT, 20}, {EDGE_BOTTOM, 20}, {EDGE_LEFT, 20}, {CONTEXT, 1, 2}, {Z, -9, 9},
            {COLUMNS, 2, 4}};
        String before = all(x);
        for (int[] style : none) countsNot(x, span, style, before);
        FlowBoxes y = new FlowBoxes();
        text(y, 0, 4, 2);
        int up = box(y, 0, DISPLAY, 1);
        text(y, up, 4, 2);
        due("not shifted", y.height(0), 4);
        set(y, up, SHIFT, 10);
        due("its SHIFT counts: 13 and 1", y.height(0), 14);
    }

    /** "A box is a context, if ...": each that is one is laid out when what is in it changes. */
    private static void contexts() {
        int[][] some = {{FLOAT, 1}, {FLOAT, 2}, {POSITION, 2}, {DISPLAY, 2}, {CONTEXT, 1}, {CONTEXT, 2}, {COLUMNS, 2},
            {COLUMNS, 4}};
        int[][] none = {{POSITION, 1}, {Z, 3}, {HEIGHT, 9}, {WIDTH, 9}, {CLEAR, 3}, {EVEN, 1}, {COLUMNS, 1}, {DISPLAY, 1}};
        for (int[] style : some) {
            FlowBoxes x = new FlowBoxes();
            int b = box(x, 0, style);
            int c = box(x, b, MARGIN_TOP, 5, MARGIN_LEFT, 3, HEIGHT, 1);
            due("a context: " + style[0], x.latest(), 2);
            due("its margins end in it: " + style[0], x.height(b), style[0] == COLUMNS ? 1 : 6);
            due("what is in it is from its content's left side", x.x(c), 3 + x.x(b));
            due("and top", x.y(c), 5 + x.y(b));
            set(x, b, EDGE_LEFT, 2, EDGE_TOP, 1);
            due("within the edges", x.x(c), 5 + x.x(b));
            due("within the edge at the top", x.y(c), 6 + x.y(b));
        }
        for (int[] style : none) {
            FlowBoxes x = new FlowBoxes();
            int b = box(x, 0, style);
            box(x, b, MARGIN_TOP, 5, HEIGHT, 1, DISPLAY, 0, FLOAT, 0, CONTEXT, 0);
            due("no context: " + style[0], x.latest(), style[0] == DISPLAY ? 2 : 1);
        }
        FlowBoxes x = new FlowBoxes();
        int table = box(x, 0, DISPLAY, 3);
        int cell = box(x, box(x, table));
        box(x, cell);
        due("a cell is one, a table is not counted", x.latest(), 2);
    }

    /** "COLUMNS of a box that is in another one with columns counts as 1; a table has no columns." */
    private static void columnsInColumns() {
        FlowBoxes x = new FlowBoxes();
        int a = box(x, 0, COLUMNS, 2);
        int f = box(x, a, FLOAT, 1);
        int b = box(x, f, COLUMNS, 3);
        due("in a float in columns", x.most(b), 0);
        due("no context by that", x.latest(), 3);
        set(x, a, COLUMNS, 1);
        due("in no columns", x.most(b), 2);
        set(x, f, COLUMNS, 4);
        due("in others", x.most(b), 0);
        due("those", x.most(f), 3);
        set(x, a, COLUMNS, 3);
        due("those count no more, the outer ones do", x.most(b), 0);
        due("as 1", x.most(f), 0);
        set(x, a, DISPLAY, 3);
        due("a table has none, so its cell's block may", x.most(b), 0);
        throwing("f is a row", 'S', () -> x.most(f));
        int c = box(x, b, COLUMNS, 2);
        due("columns in a table with COLUMNS", x.most(c), 1);
        due("the cell has none", x.most(b), 1);
    }

    /** "of each word the greater one of c + 1 and its length less c, with a cut c, else its length". */
    private static void leastOfWords() {
        int[][] words = {{5, 0, 5}, {9, 3, 6}, {9, 7, 8}, {9, 4, 5}, {10, 4, 6}, {2, 1, 2}, {30, 29, 30}, {5, 1, 4}, {1, 0, 1},
            {3, 1, 2}, {4, 2, 3}};
        FlowBoxes x = new FlowBoxes();
        int b = box(x, 0, WIDTH, LEAST);
        int t = x.text(b, 0, 4);
        due("a text without words", x.least(b), 0);
        for (int[] word : words) {
            x.word(t, word[0], word[1]);
            due("least of " + word[0] + " cut at " + word[1], x.least(b), word[2]);
            due("most of it", x.most(b), word[0]);
            due("so wide then", x.width(b), word[2]);
            x.unword(t);
            due("gone", x.least(b), 0);
        }
    }

    /** "the sum of the lengths ... and outer most widths ..., and 1 between each two of these". */
    private static void mostOfRuns() {
        FlowBoxes x = new FlowBoxes();
        int b = box(x, 0);
        int t = x.text(b, 0, 4);
        due("nothing", x.most(b), 0);
        x.word(t, 5, 2);
        due("one", x.most(b), 5);
        x.word(t, 7, 0);
        due("two", x.most(b), 13);
        int i = box(x, b, DISPLAY, 2);
        due("a block of the width 0 is a thing", x.most(b), 14);
        int span = box(x, b, DISPLAY, 1);
        due("a span is none", x.most(b), 14);
        text(x, span, 4, 3);
        due("what is in it is", x.most(b), 18);
        box(x, span, POSITION, 2, WIDTH, 50);
        due("an absolute box is none", x.most(b), 18);
        text(x, b, 4);
        due("a text without words is none", x.most(b), 18);
        int block = box(x, b, HEIGHT, 1);
        int u = text(x, b, 4, 6, 6);
        due("a block ends the run", x.most(b), 18);
        x.remove(block);
        due("none between", x.most(b), 32);
        x.unword(u);
        due("a word goes", x.most(b), 25);
        due("and is not the least", x.least(b), 7);
        x.remove(i);
        due("a block goes", x.most(b), 24);
    }

    /** "a float ahead of or behind a run is in none; but those in a span of it are". */
    private static void floatsInAndOutOfRuns() {
        FlowBoxes x = new FlowBoxes();
        int b = box(x, 0);
        int f = box(x, b, FLOAT, 1, WIDTH, 10);
        due("alone", x.most(b), 10);
        int t = text(x, b, 4, 5, 6);
        due("ahead of a run", x.most(b), 12);
        int g = box(x, b, FLOAT, 2, WIDTH, 11);
        due("behind a run", x.most(b), 12);
        int u = text(x, b, 4);
        due("in a run, though the text is empty", x.most(b), 24);
        due("the least of it", x.least(b), 11);
        x.remove(u);
        x.remove(t);
        due("two of them, in no run", x.most(b), 11);
        int s = box(x, b, DISPLAY, 1);
        box(x, s, FLOAT, 1, WIDTH, 4);
        box(x, s, FLOAT, 1, WIDTH, 9);
        due("two in a span", x.most(b), 14);
        text(x, b, 4, 2);
        due("and a word", x.most(b), 17);
        x.text(b, 0, 4);
        due("all four in a run", x.most(b), 17 + 10 + 1 + 11 + 1);
        set(x, g, POSITION, 2);
        due("an absolute box is no thing", x.most(b), 17 + 10 + 1);
        due("nor least", x.least(b), 10);
        set(x, f, DISPLAY, 3, WIDTH, AUTO);
        due("an empty table", x.most(b), 17 + 1);
    }

    /** "The outer least width ... both at least 0". */
    private static void outerWidths() {
        FlowBoxes x = new FlowBoxes();
        int b = box(x, 0);
        int c = box(x, b);
        text(x, c, 4, 5, 9);
        int[][] widths = {{AUTO, 9, 15}, {FIT, 9, 15}, {LEAST, 9, 9}, {MOST, 15, 15}, {0, 0, 0}, {1, 1, 1}, {200, 200, 200},
            {1000, 9, 15}, {1100, 9, 15}};
        for (int[] width : widths) {
            set(x, c, WIDTH, width[0]);
            due("least by " + width[0], x.least(b), width[1]);
            due("most by " + width[0], x.most(b), width[2]);
            set(x, c, MARGIN_LEFT, 3, EDGE_RIGHT, 2);
            due("outer least by " + width[0], x.least(b), width[1] + 5);
            due("outer most by " + width[0], x.most(b), width[2] + 5);
            due("least inside", x.least(c), 9);
            set(x, c, MARGIN_LEFT, 0, EDGE_RIGHT, 0);
        }
        set(x, c, WIDTH, 3, MARGIN_RIGHT, -40);
        due("least, at least 0", x.least(b), 0);
        due("most, at least 0", x.most(b), 0);
        set(x, c, DISPLAY, 2);
        text(x, b, 4, 6);
        due("0 and 1 between", x.most(b), 7);
        int empty = box(x, 0);
        due("nothing in it: least", x.least(empty), 0);
        due("nothing in it: most", x.most(empty), 0);
    }

    /** "With columns n both ... are n times what they are without, and n - 1." */
    private static void measuresInColumns() {
        FlowBoxes x = new FlowBoxes();
        int b = box(x, 0, WIDTH, MOST);
        text(x, b, 4, 7, 5);
        for (int n = 1; n <= 4; n++) {
            set(x, b, COLUMNS, n);
            due("least with columns", x.least(b), 7 * n + n - 1);
            due("most with columns", x.most(b), 13 * n + n - 1);
            due("so wide then", x.width(b), 13 * n + n - 1);
        }
    }

    /** "Of a table ... the sums of those of its columns ..., and 1 between each two; with EVEN the greatest one ...". */
    private static void measuresOfTables() {
        FlowBoxes x = new FlowBoxes();
        int table = box(x, 0, DISPLAY, 3);
        for (int even = 0; even < 2; even++) {
            set(x, table, EVEN, even);
            due("no rows: least", x.least(table), 0);
            due("no rows: most", x.most(table), 0);
        }
        int r = box(x, table);
        due("no cells", x.most(table), 0);
        text(x, box(x, r, EDGE_LEFT, 1), 4, 5, 6);
        due("one column: least", x.least(table), 7);
        due("one column: most", x.most(table), 13);
        int s = box(x, table);
        box(x, s);
        text(x, box(x, s), 4, 3);
        box(x, s);
        due("three columns, even: least", x.least(table), 3 * 7 + 2);
        due("three columns, even: most", x.most(table), 3 * 13 + 2);
        set(x, table, EVEN, 0);
        due("three columns: least", x.least(table), 7 + 3 + 0 + 2);
        due("three columns: most", x.most(table), 13 + 3 + 0 + 2);
    }

    /** Widths far above what an int times an int holds are shared out as they should be. */
    private static void veryWide() {
        FlowBoxes x = new FlowBoxes();
        x.page(300);
        int at = box(x, 0, WIDTH, MOST);
        int outer = at;
        for (int level = 0; level < 5; level++) {
            int table = box(x, at, DISPLAY, 3, EVEN, 1, WIDTH, MOST);
            int row = box(x, table);
            at = box(x, row);
            for (int cell = 1; cell < 7; cell++) box(x, row);
        }
        int t = text(x, at, 4);
        for (int k = 0; k < 20; k++) x.word(t, 30, 15);
        int most = 619;
        for (int level = 0; level < 5; level++) {
            most = 7 * most + 6;
        }
        due("most", x.most(outer), most);
        due("least of what has its most width", x.least(outer), most);
        due("so wide", x.width(outer), most);
        int half = box(x, outer, WIDTH, 1099);
        due("a percentage of that", x.width(half), 99L * most / 100);
    }
}
