/**
 * The sentences of the document that name a boundary, a test each: tables, columns, bars, positioned boxes,
 * painting and hits, and the memory (promises 10 to 14, 17 to 25).
 */
public final class RestEdgesTest extends Check {
    public static void main(String[] args) {
        tableColumns();
        evenColumns();
        mostWidths();
        restOfTheWidth();
        rowsAndTheirHeights();
        widthsOfColumns();
        breakPlaces();
        wholeThings();
        insidesAreNoBreaks();
        columnsOfAHeight();
        leastHeights();
        whereThingsAre();
        twoStrips();
        thingsInAnotherOrder();
        edgesOfThings();
        noBars();
        uprightBars();
        flatBars();
        whatReaches();
        barsLeaveRoom();
        barsInBars();
        placedIn();
        leftAndTop();
        moves();
        stacks();
        owners();
        paintPlaces();
        sidesOfHits();
        hitsOfWords();
        changes();
        kept();
        counted();
        latest();
        end("RestEdgesTest");
    }

    /** "A table has as many columns as its rows have cells at most." */
    private static void tableColumns() {
        FlowBoxes x = new FlowBoxes();
        int table = box(x, 0, DISPLAY, 3, WIDTH, 20);
        int r = box(x, table);
        place("no cells", x, r, 0, 0, 20, 0);
        int a = box(x, r);
        text(x, a, 4, 30);
        due("one column", x.width(a), 30);
        int s = box(x, table);
        int b = box(x, s);
        int c = box(x, s);
        int d = box(x, s);
        place("the first of three", x, b, 0, 5, 30, 0);
        place("the second", x, c, 31, 5, 0, 0);
        place("the third", x, d, 32, 5, 0, 0);
        set(x, table, EVEN, 1);
        due("18 by 3", x.width(a), 6);
        x.remove(s);
        due("20 by 1", x.width(a), 20);
        x.remove(r);
        place("no rows", x, table, 0, 0, 20, 0);
    }

    /** "By EVEN each column has r divided by how many, rounded down." */
    private static void evenColumns() {
        FlowBoxes x = new FlowBoxes();
        int table = box(x, 0, DISPLAY, 3, EVEN, 1);
        int row = box(x, table);
        int a = box(x, row);
        int b = box(x, row, EDGE_LEFT, 2);
        int c = box(x, row);
        int[][] widths = {{20, 6}, {19, 5}, {5, 1}, {4, 0}, {2, 0}, {1, 0}, {0, 0}};
        for (int[] width : widths) {
            set(x, table, WIDTH, width[0]);
            due("a third of " + width[0], x.width(a), width[1]);
            due("no less than its edges", x.width(b), Math.max(2, width[1]));
            due("1 between", x.x(b), width[1] + 1);
            due("1 between again", x.x(c), 2 * width[1] + 2);
        }
        x.remove(c);
        x.remove(b);
        for (int[] width : widths) {
            set(x, table, WIDTH, width[0]);
            due("all of " + width[0], x.width(a), width[0]);
        }
    }

    /** "if the most widths of all together are no more than r, these; else, each has its least width, also if ...". */
    private static void mostWidths() {
        FlowBoxes x = new FlowBoxes();
        int table = box(x, 0, DISPLAY, 3);
        int row = box(x, table);
        int a = box(x, row);
        int b = box(x, row);
        text(x, a, 4, 4, 5);
        text(x, b, 4, 3, 3);
        int[][] widths = {{60, 10, 7}, {18, 10, 7}, {17, 5 + 4 + 1, 3 + 3}, {16, 5 + 3 + 1, 3 + 3}, {15, 5 + 3 + 1, 3 + 2},
            {10, 6, 3}, {9, 5, 3}, {8, 5, 3}, {0, 5, 3}};
        for (int[] width : widths) {
            set(x, table, WIDTH, width[0]);
            due("the first in " + width[0], x.width(a), width[1]);
            due("the second in " + width[0], x.width(b), width[2]);
            due("beside it", x.x(b), width[1] + 1);
        }
    }

    /** "that rest times what it lacks ..., divided by what all lack, rounded down; what is left of it goes 1 to each ...". */
    private static void restOfTheWidth() {
        FlowBoxes x = new FlowBoxes();
        int table = box(x, 0, DISPLAY, 3);
        int row = box(x, table);
        int[] cells = new int[4];
        int[][] words = {{3}, {1, 1}, {2, 2, 1}, {1}};
        for (int k = 0; k < 4; k++) {
            cells[k] = box(x, row);
            text(x, cells[k], 1, words[k]);
        }
        // Least 3, 1, 2, 1; they lack 0, 2, 5, 0.
        int[][] widths = {{10, 3, 1, 2, 1}, {11, 3, 2, 2, 1}, {12, 3, 2, 3, 1}, {13, 3, 1 + 0 + 1, 2 + 2, 1},
            {14, 3, 1 + 1 + 1, 2 + 2, 1}, {15, 3, 3, 5, 1}, {16, 3, 3, 6, 1}, {17, 3, 3, 7, 1}, {18, 3, 3, 7, 1}};
        for (int[] width : widths) {
            set(x, table, WIDTH, width[0]);
            for (int k = 0; k < 4; k++) due("column " + k + " in " + width[0], x.width(cells[k]), width[k + 1]);
        }
        x.remove(cells[0]);
        x.word(x.text(cells[1], 0, 1), 3, 1);
        x.remove(cells[3]);
        x.remove(cells[2]);
        int c = box(x, row);
        text(x, c, 1, 3, 3, 1);
        // Least 2 and 3 (the first has a word that may be cut to 2 and 2, and 1, and 1); they lack 5 and 6.
        set(x, table, WIDTH, 7);
        due("1 of 1", x.width(cells[1]), 3);
        due("0 of 1", x.width(c), 3);
        int other = box(x, 0, DISPLAY, 3, WIDTH, 7);
        int r = box(x, other);
        int one = box(x, r);
        x.word(x.text(one, 0, 1), 3, 1);
        int five = box(x, r);
        text(x, five, 1, 3, 1, 2);
        // Least 2 and 3; they lack 1 and 5.
        due("lacks 1, gets what is left", x.width(one), 3);
        due("lacks 5, gets 0", x.width(five), 3);
        set(x, other, WIDTH, 9);
        due("lacks 1, gets 0 and 1", x.width(one), 3);
        due("lacks 5, gets 2", x.width(five), 5);
    }

    /** "the row is as high as the highest of its cells with edges, 0 without cells"; "its own if known and more". */
    private static void rowsAndTheirHeights() {
        FlowBoxes x = new FlowBoxes();
        int table = box(x, 0, DISPLAY, 3);
        int r = box(x, table);
        place("a row without cells", x, r, 0, 0, 0, 0);
        int s = box(x, table);
        place("1 between rows without cells", x, s, 0, 1, 0, 0);
        due("the table", x.height(table), 1);
        int a = box(x, r, HEIGHT, 0);
        text(x, a, 4, 3);
        place("a cell's own height, 0, is known", x, r, 0, 0, 3, 0);
        set(x, a, HEIGHT, AUTO);
        place("and unknown", x, r, 0, 0, 3, 4);
        int b = box(x, r, EDGE_TOP, 3, EDGE_BOTTOM, 2);
        place("with edges", x, b, 4, 0, 0, 5);
        due("all cells are so high", x.height(a), 5);
        set(x, table, HEIGHT, 6);
        due("its own, no more than theirs", x.height(table), 6);
        set(x, table, HEIGHT, 7);
        due("its own, more than theirs", x.height(table), 7);
        set(x, table, HEIGHT, 5);
        due("theirs", x.height(table), 6);
        set(x, table, HEIGHT, 0, EDGE_TOP, 1);
        due("theirs, with an edge", x.height(table), 7);
        place("within the edges", x, s, 0, 7, 4, 0);
        int p = box(x, 0, HEIGHT, 30);
        int q = box(x, p, DISPLAY, 3, HEIGHT, 1050);
        due("a percentage", x.height(q), 15);
        box(x, q);
        set(x, p, HEIGHT, AUTO);
        due("of the unknown", x.height(q), 0);
        int was = box(x, 0, MARGIN_LEFT, 5);
        int in = box(x, was, MARGIN_LEFT, 7);
        set(x, was, DISPLAY, 3);
        due("a row that was a block", x.x(in), 5);
    }

    /** "the width w less n - 1, divided by n, rounded down, at least 1". */
    private static void widthsOfColumns() {
        int[][] widths = {{60, 2, 29}, {61, 2, 30}, {60, 3, 19}, {60, 4, 14}, {5, 2, 2}, {4, 2, 1}, {3, 2, 1}, {2, 2, 1}, {1, 2, 1},
            {0, 2, 1}, {3, 4, 1}, {0, 4, 1}, {7, 4, 1}, {10, 4, 1}, {11, 4, 2}, {60, 1, 60}, {0, 1, 0}};
        for (int[] width : widths) {
            FlowBoxes x = new FlowBoxes();
            int b = box(x, 0, COLUMNS, width[1], WIDTH, width[0]);
            int c = box(x, b, CONTEXT, 1, HEIGHT, 1);
            int d = box(x, b, CONTEXT, 1, HEIGHT, 1);
            due(width[1] + " in " + width[0], x.width(c), width[2]);
            due("beside it", x.x(d), width[1] == 1 ? 0 : width[2] + 1);
            due("the box itself", x.width(b), width[0]);
        }
    }

    /** The box's columns are 5 wide, and 1 between: where nodes are. */
    private static void inColumns(String what, FlowBoxes x, int[] nodes, int[][] places) {
        for (int k = 0; k < nodes.length; k++) {
            due(what + ", column of " + k, x.x(nodes[k]), 6 * places[k][0]);
            due(what + ", top of " + k, x.y(nodes[k]), places[k][1]);
        }
    }

    /** "Break places of the strip are 0, its height, and between these, all tops and lower ends of lines, ...". */
    private static void breakPlaces() {
        FlowBoxes x = new FlowBoxes();
        int b = box(x, 0, COLUMNS, 2, WIDTH, 11);
        int c = box(x, b, CONTEXT, 1, HEIGHT, 3);
        int t = text(x, b, 4, 5);
        int d = box(x, b, CONTEXT, 2, HEIGHT, 2);
        int e = box(x, b, DISPLAY, 3, HEIGHT, 3);
        int[] nodes = {c, t, d, e};
        // The strip: 0 to 3, a line to 7, 2 to 9, a table to 12.
        inColumns("7 and 5", x, nodes, new int[][] {{0, 0}, {0, 3}, {1, 0}, {1, 2}});
        due("so high", x.height(b), 7);
        set(x, b, HEIGHT, 12);
        inColumns("12", x, nodes, new int[][] {{0, 0}, {0, 3}, {0, 7}, {0, 9}});
        set(x, b, HEIGHT, 11);
        inColumns("11", x, nodes, new int[][] {{0, 0}, {0, 3}, {0, 7}, {1, 0}});
        set(x, b, HEIGHT, 9);
        inColumns("9", x, nodes, new int[][] {{0, 0}, {0, 3}, {0, 7}, {1, 0}});
        set(x, b, HEIGHT, 8);
        inColumns("8", x, nodes, new int[][] {{0, 0}, {0, 3}, {1, 0}, {1, 2}});
        set(x, b, HEIGHT, 5);
        inColumns("5", x, nodes, new int[][] {{0, 0}, {1, 0}, {2, 0}, {2, 2}});
        set(x, b, HEIGHT, 4);
        inColumns("4", x, nodes, new int[][] {{0, 0}, {1, 0}, {2, 0}, {3, 0}});
        set(x, b, HEIGHT, 3);
        inColumns("3: the least one above, though more", x, nodes, new int[][] {{0, 0}, {1, 0}, {2, 0}, {3, 0}});
        set(x, b, HEIGHT, 0);
        inColumns("0", x, nodes, new int[][] {{0, 0}, {1, 0}, {2, 0}, {3, 0}});
        due("its own height", x.height(b), 0);
        set(x, b, HEIGHT, AUTO, COLUMNS, 3, WIDTH, 17);
        inColumns("three", x, nodes, new int[][] {{0, 0}, {1, 0}, {2, 0}, {2, 2}});
        due("5 high", x.height(b), 5);
        set(x, d, MARGIN_TOP, 2);
        // Now 0 to 3, 3 to 7, 9 to 11, 11 to 14: what is between is broken at 7 and at 9.
        inColumns("a gap", x, nodes, new int[][] {{0, 0}, {1, 0}, {2, 0}, {2, 2}});
        due("3, 6, and 5", x.height(b), 6);
        set(x, b, HEIGHT, 7);
        inColumns("7 and 7", x, nodes, new int[][] {{0, 0}, {0, 3}, {1, 2}, {1, 4}});
    }

    /** "at which none of these has its top above and its lower end below". */
    private static void wholeThings() {
        FlowBoxes x = new FlowBoxes();
        int b = box(x, 0, COLUMNS, 3, WIDTH, 17);
        int f = box(x, b, FLOAT, 1, WIDTH, 1, HEIGHT, 6);
        int c = box(x, b, CONTEXT, 1, HEIGHT, 3);
        int d = box(x, b, CONTEXT, 1, HEIGHT, 3);
        int e = box(x, b, CONTEXT, 1, HEIGHT, 3);
        inColumns("the float ends at 6", x, new int[] {f, e}, new int[][] {{0, 0}, {1, 0}});
        place("nothing is broken at 3", x, d, 1, 3, 4, 3);
        set(x, f, HEIGHT, 3);
        due("at 3: d is at the left then", x.x(d), 6);
        inColumns("at 3", x, new int[] {f, d, e}, new int[][] {{0, 0}, {1, 0}, {2, 0}});
        set(x, f, MARGIN_BOTTOM, 1);
        inColumns("its margin ends at 4: nothing at 3", x, new int[] {f, e}, new int[][] {{0, 0}, {1, 0}});
        due("d is beside it", x.x(d), 1);
        set(x, f, HEIGHT, 7, MARGIN_BOTTOM, 0);
        due("e is beside it, in the first column", x.x(e), 1);
        due("all are in the first column", x.y(e), 6);
        due("1, as the one break place is the end", x.height(b), 1);
        set(x, f, MARGIN_TOP, -7);
        inColumns("an outer height of 0 breaks nothing", x, new int[] {c, d, e}, new int[][] {{0, 0}, {1, 0}, {2, 0}});
        due("1, as with that there are three, too", x.height(b), 1);
    }

    /** "not of what is in those": neither lines in a context, nor in a float, nor in an inline block. */
    private static void insidesAreNoBreaks() {
        int[][] kinds = {{CONTEXT, 1}, {FLOAT, 1}, {DISPLAY, 2}};
        for (int[] kind : kinds) {
            FlowBoxes x = new FlowBoxes();
            int b = box(x, 0, COLUMNS, 2, WIDTH, 11);
            int c = box(x, b, kind);
            set(x, c, WIDTH, 5);
            int t = text(x, c, 4, 5, 5);
            int d = box(x, b, CONTEXT, 1, HEIGHT, 2, WIDTH, 5);
            due("the second word stays: " + kind[0], x.wordAt(t, 1, 0), 0);
            due("below the first", x.wordAt(t, 1, 1), 4);
            due("1 high, as there are two anyway", x.height(b), 1);
            due("the next column", x.x(d), 6);
            set(x, b, HEIGHT, 4);
            due("the second word stays all the same", x.wordAt(t, 1, 1), 4);
            set(x, d, HEIGHT, 0);
            due("at the strip's end no column begins", x.x(d), 0);
            due("so it is there", x.y(d), 8);
        }
        FlowBoxes x = new FlowBoxes();
        int b = box(x, 0, COLUMNS, 2, WIDTH, 11);
        int p = box(x, b);
        int t = text(x, p, 4, 5, 5, 5);
        due("a plain block is broken", x.wordAt(t, 2, 0), 6);
        due("at the second column's top", x.wordAt(t, 2, 1), 0);
        place("it is where it begins", x, p, 0, 0, 5, 12);
        due("its third line", x.line(p, 2, 0), 6);
        due("8 high", x.height(b), 8);
    }

    /** "With a height h a column begins at a break place s, and the next one at the greatest ... up to s and h ...". */
    private static void columnsOfAHeight() {
        FlowBoxes x = new FlowBoxes();
        int b = box(x, 0, COLUMNS, 2, WIDTH, 11);
        int[] c = new int[6];
        for (int k = 0; k < 6; k++) c[k] = box(x, b, CONTEXT, 1, HEIGHT, 1);
        int[] begins = {1, 1, 2, 3, 4, 5, 6};
        for (int h = 0; h <= 6; h++) {
            set(x, b, HEIGHT, h);
            int high = Math.max(1, begins[h]);
            for (int k = 0; k < 6; k++) {
                due("of " + h + ": column of " + k, x.x(c[k]), 6 * (k / high));
                due("of " + h + ": top of " + k, x.y(c[k]), k % high);
            }
        }
        set(x, b, HEIGHT, 200);
        due("one column", x.x(c[5]), 0);
        set(x, b, HEIGHT, 1050);
        due("half of the unknown is unknown", x.height(b), 3);
    }

    /** "otherwise the least h, 1 or more, with which there are n columns at most (0 for a strip of height 0)". */
    private static void leastHeights() {
        FlowBoxes x = new FlowBoxes();
        int b = box(x, 0, COLUMNS, 4);
        due("an empty strip", x.height(b), 0);
        int c = box(x, b, CONTEXT, 1);
        due("a strip of height 0", x.height(b), 0);
        due("is in the first column", x.x(c), 0);
        set(x, c, HEIGHT, 1);
        due("1", x.height(b), 1);
        set(x, c, HEIGHT, 9);
        due("one column is no more than 4, so 1", x.height(b), 1);
        int[] highs = {9, 9, 9, 18, 18, 18, 18};
        for (int k = 0; k < 7; k++) {
            box(x, b, CONTEXT, 1, HEIGHT, 9);
            due(k + 2 + " of 9", x.height(b), k + 2 <= 4 ? 1 : highs[k]);
        }
        box(x, b, CONTEXT, 1, HEIGHT, 9);
        due("9 of 9", x.height(b), 27);
        set(x, b, COLUMNS, 2);
        due("in two columns", x.height(b), 45);
        FlowBoxes y = new FlowBoxes();
        int d = box(y, 0, COLUMNS, 3);
        box(y, d, CONTEXT, 1, HEIGHT, 2, MARGIN_TOP, -9);
        due("a strip above 0 has the height 0", y.height(d), 0);
    }

    /** "in the last column that begins at their top or above it, in the first one if none does". */
    private static void whereThingsAre() {
        FlowBoxes x = new FlowBoxes();
        int b = box(x, 0, COLUMNS, 2, WIDTH, 11, EDGE_LEFT, 3, EDGE_TOP, 2);
        int c = box(x, b, CONTEXT, 1, HEIGHT, 4);
        int d = box(x, b, CONTEXT, 1, HEIGHT, 4);
        int p = box(x, b, MARGIN_TOP, -1, HEIGHT, 1);
        int a = box(x, b, POSITION, 2, WIDTH, 1, HEIGHT, 1);
        int q = box(x, b, MARGIN_TOP, -5, HEIGHT, 1);
        int n = box(x, b, MARGIN_TOP, -7, HEIGHT, 1);
        int r = box(x, b, MARGIN_TOP, 9);
        place("the first", x, c, 3, 2, 5, 4);
        place("at the beginning of the second", x, d, 9, 2, 5, 4);
        place("1 above the end", x, p, 9, 5, 5, 1);
        place("a static place", x, a, 9, 6, 1, 1);
        place("1 above the beginning of the second", x, q, 3, 5, 5, 1);
        place("above all", x, n, 3, -1, 5, 1);
        place("at 7, which is the strip's height", x, r, 9, 5, 5, 0);
        set(x, n, POSITION, 1, TOP, 20, LEFT, 1);
        place("where it is moved to does not count", x, n, 4, 19, 5, 1);
        due("1 high, and an edge", x.height(b), 3);
        floatsInColumns();
    }

    /** "Boxes ... are in the last column that begins at their top": a float's, too, is that with its edges. */
    private static void floatsInColumns() {
        FlowBoxes x = new FlowBoxes();
        int b = box(x, 0, COLUMNS, 2, WIDTH, 11, HEIGHT, 5);
        box(x, b, CONTEXT, 1, HEIGHT, 5);
        int f = box(x, b, FLOAT, 1, WIDTH, 2, HEIGHT, 4);
        place("at 5", x, f, 6, 0, 2, 4);
        set(x, f, MARGIN_TOP, -2);
        place("put at 5, but from 3 on", x, f, 0, 3, 2, 4);
        set(x, f, MARGIN_TOP, 1);
        place("put at 5, but from 6 on", x, f, 6, 1, 2, 4);
        set(x, f, MARGIN_TOP, 3, HEIGHT, 0);
        int g = box(x, b, FLOAT, 2, WIDTH, 2, HEIGHT, 6, CLEAR, 3);
        place("put at 5, but from 8 on", x, f, 6, 3, 2, 0);
        place("the other one beside it", x, g, 9, 0, 2, 6);
    }

    /** One strip after another, and the same one again: each has its own break places. */
    private static void twoStrips() {
        FlowBoxes x = new FlowBoxes();
        int a = box(x, 0, COLUMNS, 2, WIDTH, 11);
        box(x, a, CONTEXT, 1, HEIGHT, 9);
        int b = box(x, 0, COLUMNS, 2, WIDTH, 11);
        box(x, b, CONTEXT, 1, HEIGHT, 3);
        int c = box(x, b, CONTEXT, 1, HEIGHT, 4);
        due("no thing of the other one", x.x(c), 6);
        due("the other one", x.height(a), 1);
        int inner = box(x, c, DISPLAY, 2, COLUMNS, 2, WIDTH, 3);
        int i = box(x, inner, CONTEXT, 1, HEIGHT, 7);
        due("columns in columns are none", x.height(inner), 7);
        due("of the full width", x.width(i), 3);
        due("c is still there", x.x(c), 6);
        x.remove(a);
        fewerThings();
    }

    /** A strip with fewer things behind one with more, and one above 0 ahead of it. */
    private static void fewerThings() {
        FlowBoxes x = new FlowBoxes();
        int a = box(x, 0, COLUMNS, 2, WIDTH, 11);
        box(x, a, CONTEXT, 1, HEIGHT, 10, MARGIN_TOP, -6);
        box(x, a, CONTEXT, 1, HEIGHT, 0);
        box(x, a, CONTEXT, 1, HEIGHT, 16);
        int b = box(x, 0, COLUMNS, 2, WIDTH, 11, HEIGHT, 5);
        box(x, b, CONTEXT, 1, HEIGHT, 3);
        int c = box(x, b, CONTEXT, 1, HEIGHT, 2);
        int p = box(x, b, HEIGHT, 4);
        due("3 and 2 in the first column", x.y(c), x.y(b) + 3);
        due("no thing of the other one", x.x(p), 6);
        set(x, b, HEIGHT, 3);
        due("3 in the first column", x.x(c), 6);
        due("2 in the second", x.x(p), 12);
    }

    /** Things that come in another order than their tops, and places that come in another order than they are. */
    private static void thingsInAnotherOrder() {
        FlowBoxes x = new FlowBoxes();
        int b = box(x, 0, COLUMNS, 2, WIDTH, 11, HEIGHT, 5);
        int f = box(x, b, FLOAT, 1, WIDTH, 1, HEIGHT, 7);
        int c = box(x, b, CONTEXT, 1, HEIGHT, 5);
        int t = text(x, b, 4, 4);
        int d = box(x, b, CONTEXT, 1, HEIGHT, 3);
        // The float is 0 to 7, c 0 to 5, the line 5 to 9, d 9 to 12: nothing is broken at 5 and 7.
        int[] nodes = {f, d};
        inColumns("the line is in the float's column", x, nodes, new int[][] {{0, 0}, {1, 0}});
        place("the line", x, t, 1, 5, 4, 4);
        place("c", x, c, 1, 0, 4, 5);
        x.remove(t);
        int p = box(x, b, CLEAR, 1, EDGE_TOP, 1);
        int e = box(x, p, CONTEXT, 1, HEIGHT, 2);
        x.remove(d);
        // Now e is 8 to 10: 7, where the float ends, is the one break place ahead of it.
        place("from the float's end", x, e, 6, 1, 5, 2);
        place("the block around it", x, p, 6, 0, 5, 3);
        set(x, f, MARGIN_TOP, -7);
        set(x, c, MARGIN_BOTTOM, 2);
        place("from c's end", x, e, 6, 3, 5, 2);
    }

    /** "with their edges": a context's; an inline block is one, also where it is out of its line. */
    private static void edgesOfThings() {
        FlowBoxes x = new FlowBoxes();
        int b = box(x, 0, COLUMNS, 2, WIDTH, 11, HEIGHT, 3);
        int c = box(x, b, CONTEXT, 1, HEIGHT, 3, EDGE_TOP, 1, EDGE_BOTTOM, 1);
        int d = box(x, b, CONTEXT, 1, HEIGHT, 2);
        place("behind its edges", x, d, 6, 0, 5, 2);
        place("with its edges", x, c, 0, 0, 5, 5);
        set(x, c, DISPLAY, 2, WIDTH, 5, MARGIN_BOTTOM, -4);
        // A line 0 to 1, but the block in it 0 to 5; d is 1 to 3.
        place("the block out of the line is not broken", x, d, 0, 1, 5, 2);
        set(x, d, HEIGHT, 6);
        int e = box(x, b, HEIGHT, 1);
        place("nor is d, beyond the block", x, e, 6, 0, 5, 1);
        set(x, c, MARGIN_BOTTOM, 0);
        place("no more out of the line", x, d, 6, 0, 5, 6);
    }

    /** "A box with CONTEXT 2 ... has no bars at first"; of others bars() is 0. */
    private static void noBars() {
        FlowBoxes x = new FlowBoxes();
        int s = box(x, 0, CONTEXT, 2);
        place("empty", x, s, 0, 0, 60, 0);
        due("none", x.bars(s), 0);
        set(x, s, WIDTH, 0, HEIGHT, 0);
        due("none, in nothing", x.bars(s), 0);
        int t = text(x, s, 4, 5);
        due("both", x.bars(s), 3);
        set(x, s, CONTEXT, 1);
        due("a closed one", x.bars(s), 0);
        set(x, s, CONTEXT, 2, COLUMNS, 2);
        due("with columns", x.bars(s), 0);
        set(x, s, COLUMNS, 1, DISPLAY, 3);
        due("a table", x.bars(s), 0);
        set(x, s, DISPLAY, 1);
        throwing("a span", 'S', () -> x.bars(s));
        set(x, s, DISPLAY, 2);
        due("an inline block", x.bars(s), 3);
        due("the root", x.bars(0), 0);
        throwing("a text", 'I', () -> x.bars(t));
        set(x, s, DISPLAY, 0, HEIGHT, AUTO, WIDTH, 5);
        due("it just fits", x.bars(s), 0);
        due("no bar, no 2 more", x.height(s), 4);
    }

    /** "if its height is known, and the content's height is above that, less 2 if it has a flat bar". */
    private static void uprightBars() {
        FlowBoxes x = new FlowBoxes();
        int s = box(x, 0, CONTEXT, 2, WIDTH, 10, HEIGHT, 5);
        int c = box(x, s, WIDTH, 3, HEIGHT, 5);
        due("5 of 5", x.bars(s), 0);
        set(x, c, HEIGHT, 6);
        due("6 of 5", x.bars(s), 1);
        set(x, s, HEIGHT, AUTO);
        due("6 of the unknown", x.bars(s), 0);
        set(x, s, HEIGHT, 0);
        due("6 of 0", x.bars(s), 1);
        due("0 all the same", x.height(s), 0);
        set(x, s, HEIGHT, 1050);
        due("half of the unknown", x.bars(s), 0);
        set(x, s, HEIGHT, 8);
        set(x, c, WIDTH, 11);
        due("6 of 8 less 2", x.bars(s), 2);
        due("8 all the same", x.height(s), 8);
        set(x, s, HEIGHT, 7);
        due("6 of 7 less 2", x.bars(s), 3);
        set(x, c, WIDTH, 3, HEIGHT, 7, MARGIN_BOTTOM, 1);
        due("with a margin, 8 of 7", x.bars(s), 1);
        set(x, c, FLOAT, 1);
        due("a float's outer end", x.bars(s), 1);
        set(x, c, MARGIN_BOTTOM, 0);
        due("7 of 7", x.bars(s), 0);
    }

    /** "if the content reaches to the right beyond its width, less 2 if it has an upright bar"; "2 more with a flat bar". */
    private static void flatBars() {
        FlowBoxes x = new FlowBoxes();
        int s = box(x, 0, CONTEXT, 2, WIDTH, 10);
        int c = box(x, s, WIDTH, 10, HEIGHT, 3);
        due("10 of 10", x.bars(s), 0);
        due("3", x.height(s), 3);
        set(x, c, WIDTH, 11);
        due("11 of 10", x.bars(s), 2);
        due("3 and 2", x.height(s), 5);
        set(x, s, HEIGHT, 2);
        set(x, c, WIDTH, 9);
        due("9 of 10 less 2", x.bars(s), 3);
        set(x, c, WIDTH, 8);
        due("8 of 10 less 2", x.bars(s), 1);
        due("the width is the same", x.width(s), 10);
        set(x, s, WIDTH, 1050);
        due("of a percentage", x.bars(s), 1);
        set(x, s, WIDTH, AUTO);
        int w = box(x, s, HEIGHT, 1);
        due("a block by auto is beyond at once", x.bars(s), 3);
        due("and then it is not", x.width(w), 58);
    }

    /** "as far to the right as lines, floats' outer ends, and blocks and contexts in its flow with their edges do". */
    private static void whatReaches() {
        int[][] ten = {{WIDTH, 10}, {WIDTH, 7, EDGE_LEFT, 1, EDGE_RIGHT, 2}, {WIDTH, 8, MARGIN_LEFT, 2}, {WIDTH, 10, MARGIN_RIGHT, 9},
            {WIDTH, 10, CONTEXT, 1}, {WIDTH, 7, EDGE_LEFT, 1, EDGE_RIGHT, 2, CONTEXT, 1}, {WIDTH, 8, MARGIN_LEFT, 2, CONTEXT, 1},
            {WIDTH, 10, MARGIN_RIGHT, 9, CONTEXT, 1}, {WIDTH, 10, DISPLAY, 3}, {WIDTH, 10, FLOAT, 1},
            {WIDTH, 7, FLOAT, 1, MARGIN_LEFT, 1, EDGE_LEFT, 1, MARGIN_RIGHT, 1}, {WIDTH, 12, FLOAT, 1, MARGIN_RIGHT, -2},
            {WIDTH, 10, DISPLAY, 2}, {WIDTH, 7, DISPLAY, 2, EDGE_LEFT, 2, MARGIN_RIGHT, 1}, {WIDTH, 50, FLOAT, 2},
            {WIDTH, 10, POSITION, 1, LEFT, 30}, {WIDTH, 11, MARGIN_LEFT, -1}};
        for (int[] styles : ten) {
            FlowBoxes x = new FlowBoxes();
            int s = box(x, 0, CONTEXT, 2, WIDTH, 10);
            int b = box(x, s, styles);
            set(x, b, HEIGHT, 1);
            StringBuilder told = new StringBuilder();
            for (int style : styles) told.append(style).append(' ');
            due("10 of 10: " + told, x.bars(s), 0);
            x.style(b, WIDTH, styles[1] + 1);
            due("11 of 10: " + told, x.bars(s), styles[2 % styles.length] == FLOAT && styles[3 % styles.length] == 2 ? 0 : 2);
        }
        FlowBoxes x = new FlowBoxes();
        int s = box(x, 0, CONTEXT, 2, WIDTH, 10);
        int t = text(x, s, 4, 10);
        due("a word of 10", x.bars(s), 0);
        x.unword(t);
        x.word(t, 11, 0);
        due("a word of 11", x.bars(s), 2);
        x.unword(t);
        box(x, s, POSITION, 2, WIDTH, 50, HEIGHT, 50);
        due("an absolute box", x.bars(s), 0);
        int i = box(x, s, DISPLAY, 2, WIDTH, 11, MARGIN_LEFT, 1, EDGE_RIGHT, 2, MARGIN_RIGHT, -4);
        due("a block in a line, 10 in all, but 14 with its edges", x.bars(s), 2);
        set(x, i, WIDTH, 7);
        due("10 with its edges", x.bars(s), 0);
        set(x, i, WIDTH, 6, MARGIN_LEFT, 3);
        due("11 with its margin ahead", x.bars(s), 2);
        set(x, i, MARGIN_LEFT, 1);
        int c = box(x, s, CONTEXT, 1, WIDTH, 3);
        box(x, c, WIDTH, 50, HEIGHT, 1);
        due("what is in a context is not in the flow", x.bars(s), 0);
        set(x, c, CONTEXT, 0);
        due("but what is in a block", x.bars(s), 2);
    }

    /** "it is laid out again, with the width less 2 if there is an upright bar, until it gets none". */
    private static void barsLeaveRoom() {
        int[][] widths = {{10, 8}, {3, 1}, {2, 0}, {1, 0}, {0, 0}};
        for (int[] width : widths) {
            FlowBoxes x = new FlowBoxes();
            int s = box(x, 0, CONTEXT, 2, WIDTH, width[0], HEIGHT, 1);
            int b = box(x, s, HEIGHT, 2);
            due("what is left of " + width[0], x.width(b), width[1]);
            due("laid out again", x.latest(), 3);
            due("the box itself", x.width(s), width[0]);
        }
        lessThanNothing();
        FlowBoxes x = new FlowBoxes();
        int s = box(x, 0, CONTEXT, 2, WIDTH, 10, HEIGHT, 4);
        text(x, s, 4, 6, 3);
        due("10 of 10, so one line", x.lines(s), 1);
        box(x, s, WIDTH, 1, HEIGHT, 1);
        due("an upright bar, and so two", x.lines(s), 2);
        due("and no flat one, as 10 is beyond 8", x.bars(s), 3);
        box(x, s, WIDTH, 1, HEIGHT, 1);
        due("still", x.bars(s), 3);
    }

    /** "less 2" where there are no 2: 0 is above and beyond what is left. */
    private static void lessThanNothing() {
        FlowBoxes x = new FlowBoxes();
        int s = box(x, 0, CONTEXT, 2, WIDTH, 0, HEIGHT, 1);
        int b = box(x, s, HEIGHT, 1);
        due("0 is not beyond 0", x.bars(s), 0);
        set(x, b, HEIGHT, 2);
        due("0 is beyond 0 less 2", x.bars(s), 3);
        set(x, s, WIDTH, 9);
        set(x, b, WIDTH, 10, HEIGHT, 0);
        due("0 is above 1 less 2", x.bars(s), 3);
        set(x, s, HEIGHT, 2);
        due("0 is not above 2 less 2", x.bars(s), 2);
        leftOfNothing();
    }

    /** "as far to the right as lines, floats' outer ends, and blocks and contexts ... do": no further, also if these are all to the left. */
    private static void leftOfNothing() {
        int[][] kinds = {{CONTEXT, 0}, {CONTEXT, 1}, {FLOAT, 1}, {DISPLAY, 3}};
        for (int[] kind : kinds) {
            FlowBoxes x = new FlowBoxes();
            int s = box(x, 0, CONTEXT, 2, WIDTH, 0, HEIGHT, 1);
            int b = box(x, s, WIDTH, 7, HEIGHT, 2, MARGIN_LEFT, -10);
            set(x, b, kind);
            due("-3 is not beyond 0 less 2", x.bars(s), 1);
            set(x, b, WIDTH, 8);
            due("-2 is not beyond 0 less 2", x.bars(s), 1);
            set(x, b, WIDTH, 9);
            due("-1 is beyond 0 less 2", x.bars(s), 3);
            set(x, s, WIDTH, 1);
            due("-1 is not beyond 1 less 2", x.bars(s), 1);
            set(x, b, WIDTH, 10);
            due("0 is beyond 1 less 2", x.bars(s), 3);
        }
        FlowBoxes x = new FlowBoxes();
        int s = box(x, 0, CONTEXT, 2, WIDTH, 0, HEIGHT, 1);
        int b = box(x, s, DISPLAY, 2, WIDTH, 0, HEIGHT, 4, MARGIN_LEFT, -9);
        due("a line that ends at -9", x.bars(s), 1);
        set(x, b, EDGE_LEFT, 7);
        due("at -2", x.bars(s), 1);
        set(x, b, EDGE_LEFT, 8);
        due("at -1", x.bars(s), 3);
    }

    /** "is in at most one other box that is so". */
    private static void barsInBars() {
        FlowBoxes x = new FlowBoxes();
        int[] s = new int[4];
        int at = 0;
        for (int k = 0; k < 4; k++) {
            at = box(x, at, CONTEXT, 2, WIDTH, 9, HEIGHT, 9);
            s[k] = at;
        }
        int deep = box(x, at, WIDTH, 3, HEIGHT, 10);
        int[] none = {0, 0, 0, 0};
        bars("in none but its own", x, s, none);
        set(x, s[0], CONTEXT, 1);
        bars("the fourth is in two", x, s, none);
        set(x, s[1], DISPLAY, 3);
        // Now s[2] is a row, and s[3] a cell.
        bars("a cell has none", x, s, none);
        set(x, s[1], DISPLAY, 0, COLUMNS, 2);
        bars("one with columns is not so, so the fourth is in one", x, s, new int[] {0, 0, 0, 1});
        set(x, s[1], COLUMNS, 1);
        bars("it is so", x, s, none);
        set(x, s[2], CONTEXT, 1);
        bars("the fourth is in one", x, s, new int[] {0, 0, 0, 1});
        set(x, s[0], CONTEXT, 2);
        bars("the fourth is in two again", x, s, none);
        set(x, s[0], CONTEXT, 0);
        set(x, s[1], CONTEXT, 0);
        bars("in none", x, s, new int[] {0, 0, 0, 1});
        due("laid out in 7", x.width(deep), 3);
    }

    private static void bars(String what, FlowBoxes x, int[] boxes, int[] wanted) {
        for (int k = 0; k < boxes.length; k++) due(what + ": bars " + k, x.bars(boxes[k]), wanted[k]);
    }

    /** "the nearest box around it whose POSITION is not 0, or the root, within the edges of that". */
    private static void placedIn() {
        FlowBoxes x = new FlowBoxes();
        int p = box(x, 0, POSITION, 1, WIDTH, 30, HEIGHT, 20, EDGE_LEFT, 1, EDGE_TOP, 2, MARGIN_LEFT, 4);
        int span = box(x, p, DISPLAY, 1, POSITION, 1);
        int a = box(x, span, POSITION, 2, WIDTH, 1050, HEIGHT, 1050, LEFT, 0, TOP, 0);
        place("a span is not positioned", x, a, 5, 2, 15, 10);
        int in = box(x, a, POSITION, 2, WIDTH, 1050, HEIGHT, 1050, LEFT, -200, TOP, 200);
        place("in an absolute box", x, in, -195, 202, 7, 5);
        set(x, span, DISPLAY, 2, HEIGHT, 8, WIDTH, 6);
        place("an inline block is", x, a, 5, 2, 3, 4);
        set(x, span, DISPLAY, 0, POSITION, 0);
        set(x, p, POSITION, 0, HEIGHT, 1050);
        place("in the root, whose height is unknown", x, a, 0, 0, 30, 0);
        place("so that of this is", x, in, -200, 200, 15, 0);
        set(x, a, EDGE_LEFT, 2, EDGE_TOP, 3, HEIGHT, 10);
        place("within its edges", x, in, -198, 203, 15, 5);
        int t = text(x, a, 4, 3);
        due("what is in it, too", x.x(t), 2);
        due("below its edge", x.y(t), 3);
        int s = box(x, 0, POSITION, 1, CONTEXT, 2, WIDTH, 10, HEIGHT, 1);
        box(x, s, WIDTH, 1, HEIGHT, 2);
        int b = box(x, s, POSITION, 2, WIDTH, 1100, HEIGHT, 1100);
        due("the width of that, whatever its bars", x.width(b), 10);
        due("the known height of that", x.height(b), 1);
    }

    /** "Its left side, that of its margin, is LEFT from there; by auto it is its static place; likewise its top." */
    private static void leftAndTop() {
        FlowBoxes x = new FlowBoxes();
        box(x, 0, HEIGHT, 7);
        int p = box(x, 0, MARGIN_LEFT, 5);
        int a = box(x, p, POSITION, 2, WIDTH, 3, HEIGHT, 2);
        int[] offsets = {-200, -1, 0, 1, 200};
        place("both by auto", x, a, 5, 7, 3, 2);
        for (int offset : offsets) {
            set(x, a, LEFT, offset);
            place("LEFT alone", x, a, offset, 7, 3, 2);
            set(x, a, TOP, offset);
            place("both", x, a, offset, offset, 3, 2);
            set(x, a, LEFT, -1000);
            place("TOP alone", x, a, 5, offset, 3, 2);
            set(x, a, TOP, -1000);
        }
        set(x, a, MARGIN_LEFT, 2, MARGIN_TOP, -3);
        place("by its margin, from its static place", x, a, 7, 4, 3, 2);
        set(x, a, LEFT, 0, TOP, 0);
        place("by its margin, from there", x, a, 2, -3, 3, 2);
        due("it changes nothing else", x.height(0), 7);
        due("nor the box around it", x.height(p), 0);
    }

    /** "A relative box is moved, with all in it, by LEFT and TOP, auto being 0." */
    private static void moves() {
        int[][] kinds = {{DISPLAY, 0}, {CONTEXT, 1}, {FLOAT, 1}, {DISPLAY, 2}, {DISPLAY, 3}, {COLUMNS, 2}};
        for (int[] kind : kinds) {
            FlowBoxes x = new FlowBoxes();
            int b = box(x, 0, kind);
            int r = box(x, b);
            int c = box(x, r, WIDTH, 9, HEIGHT, 3);
            int t = text(x, c, 2, 1);
            int a = box(x, c, POSITION, 2, WIDTH, 1, HEIGHT, 1);
            int behind = box(x, 0);
            int[] nodes = {b, r, c, t};
            int[] xs = new int[4];
            int[] ys = new int[4];
            for (int k = 0; k < 4; k++) {
                xs[k] = x.x(nodes[k]);
                ys[k] = x.y(nodes[k]);
            }
            boolean cell = kind[0] == DISPLAY && kind[1] == 3;
            int left = x.x(a);
            int top = x.y(a);
            int y = x.y(behind);
            set(x, b, POSITION, 1);
            for (int k = 0; k < 4; k++) due("auto is 0: " + k, x.x(nodes[k]) + x.y(nodes[k]), xs[k] + ys[k]);
            set(x, b, LEFT, -200, TOP, 7);
            for (int k = 0; k < 4; k++) {
                due("moved to the left: " + k, x.x(nodes[k]), xs[k] - 200);
                due("moved down: " + k, x.y(nodes[k]), ys[k] + 7);
            }
            due("a static place is moved", x.x(a), left - 200);
            due("down, too", x.y(a), top + 7);
            set(x, c, POSITION, 1, LEFT, 10);
            due("moved twice, but no cell is", x.x(t), xs[3] - (cell ? 200 : 190));
            set(x, b, POSITION, 0);
            due("moved once, by its own", x.x(t), xs[3] + (cell ? 0 : 10));
            due("what is behind is not moved", x.y(behind), y);
        }
    }

    /** "by rising Z, of the same Z in the order of the tree". */
    private static void stacks() {
        FlowBoxes x = new FlowBoxes();
        int[] zs = {9, -9, 0, 8, -8, 1, -1, 0, 9, -9};
        int[] b = new int[10];
        for (int k = 0; k < 10; k++) b[k] = box(x, 0, POSITION, 1 + k % 2, Z, zs[k]);
        int plain = box(x, 0, Z, -9);
        order("from -9 to 9", x, 0, b[1], b[9], b[4], b[6], plain, b[2], b[7], b[5], b[3], b[0], b[8]);
        int f = box(x, plain, FLOAT, 1, Z, -9);
        int i = box(x, plain, DISPLAY, 2, Z, -9);
        order("Z of what is no stack", x, 0, b[1], b[9], b[4], b[6], plain, f, i, b[2], b[7], b[5], b[3], b[0], b[8]);
        int in = box(x, b[1], POSITION, 1, Z, 9);
        order("a stack in a stack", x, 0, b[1], in, b[9], b[4], b[6], plain, f, i, b[2], b[7], b[5], b[3], b[0], b[8]);
        set(x, f, POSITION, 1);
        set(x, i, POSITION, 2, Z, 9);
        order("now they are", x, 0, b[1], in, b[9], f, b[4], b[6], plain, b[2], b[7], b[5], b[3], b[0], b[8], i);
    }

    /** "what is in it belongs to it alone": a float in a float in an inline block. */
    private static void owners() {
        FlowBoxes x = new FlowBoxes();
        int t = text(x, 0, 4);
        int i = box(x, 0, DISPLAY, 2);
        int u = text(x, i, 4);
        int f = box(x, i, FLOAT, 1);
        int v = text(x, f, 4);
        int b = box(x, f);
        int g = box(x, b, FLOAT, 2);
        int c = box(x, 0);
        int s = box(x, g, POSITION, 1);
        order("each as a whole", x, 0, c, t, i, f, b, g, v, u, s);
        set(x, i, DISPLAY, 1);
        order("a span owns nothing", x, 0, c, f, b, g, v, t, i, u, s);
        set(x, i, DISPLAY, 0);
        order("nor does a block", x, 0, i, c, f, b, g, v, t, u, s);
        set(x, i, CONTEXT, 1);
        order("nor does a context", x, 0, i, c, f, b, g, v, t, u, s);
        set(x, i, POSITION, 2);
        order("an absolute box does", x, 0, c, t, i, f, b, g, v, u, s);
        set(x, i, POSITION, 0, DISPLAY, 3);
        order("a table does not, and what is out is out", x, 0, i, f, b, c, g, t, s);
    }

    /** "place: from 0", to how many are painted less 1. */
    private static void paintPlaces() {
        FlowBoxes x = new FlowBoxes();
        for (int node = 1; node < 60; node++) x.box(0, 0);
        due("all 60", x.painted(), 60);
        due("the first", x.paint(0), 0);
        due("the second", x.paint(1), 59);
        due("the last", x.paint(59), 1);
        throwing("60", 'I', () -> x.paint(60));
        throwing("-1", 'I', () -> x.paint(-1));
        throwing("the least of all", 'I', () -> x.paint(Integer.MIN_VALUE));
        throwing("the greatest of all", 'I', () -> x.paint(Integer.MAX_VALUE));
        for (int node = 59; node > 0; node--) x.remove(node);
        due("the root alone", x.painted(), 1);
        throwing("1", 'I', () -> x.paint(1));
    }

    /** "the sides at the left and top included". */
    private static void sidesOfHits() {
        FlowBoxes x = new FlowBoxes();
        x.page(20);
        due("a root of the height 0", x.hit(0, 0), -1);
        int b = box(x, 0, WIDTH, 3, HEIGHT, 2, EDGE_RIGHT, 1, EDGE_BOTTOM, 1, MARGIN_LEFT, 2, MARGIN_TOP, 1);
        int[][] points = {{2, 1, b}, {1, 1, 0}, {2, 0, 0}, {5, 1, b}, {6, 1, 0}, {2, 3, b}, {2, 4, -1}, {5, 3, b}, {6, 3, 0},
            {6, 4, -1}, {0, 0, 0}, {-1, 0, -1}, {0, -1, -1}, {19, 0, 0}, {20, 0, -1}, {19, 3, 0}, {19, 4, -1},
            {Integer.MIN_VALUE, 1, -1}, {Integer.MAX_VALUE, 1, -1}, {2, Integer.MIN_VALUE, -1}, {2, Integer.MAX_VALUE, -1}};
        for (int[] point : points) due("hit " + point[0] + ", " + point[1], x.hit(point[0], point[1]), point[2]);
        int n = box(x, 0, POSITION, 2, LEFT, -200, TOP, -200, WIDTH, 1, HEIGHT, 1);
        due("far to the left", x.hit(-200, -200), n);
        due("beside that", x.hit(-199, -200), -1);
        set(x, b, WIDTH, 0, EDGE_RIGHT, 0);
        due("of the width 0", x.hit(2, 1), 0);
        int c = box(x, 0, MARGIN_TOP, -3, HEIGHT, 2);
        due("the last one in the order", x.hit(5, 2), c);
    }

    /** "in a word, or a piece, of the text, which is as high as the text's size"; "a span is never hit". */
    private static void hitsOfWords() {
        FlowBoxes x = new FlowBoxes();
        x.page(20);
        int span = box(x, 0, DISPLAY, 1);
        int t = text(x, span, 4, 2, 2, 2, 2, 2);
        for (int k = 0; k < 5; k++) {
            due("a word's left side", x.hit(3 * k, 0), t);
            due("its last point", x.hit(3 * k + 1, 3), t);
            due("behind it", x.hit(3 * k + 2, 3), 0);
        }
        due("below", x.hit(0, 4), -1);
        x.word(t, 12, 4);
        due("a piece", x.hit(19, 0), t);
        due("behind the piece", x.hit(20, 0), -1);
        due("the rest", x.hit(0, 4), t);
        due("the end of the rest", x.hit(7, 7), t);
        due("behind the rest", x.hit(8, 7), 0);
        due("below the rest", x.hit(7, 8), -1);
        x.page(60);
        due("a whole word", x.hit(26, 3), t);
        due("behind the whole word", x.hit(27, 3), 0);
        due("no rest any more", x.hit(0, 4), -1);
        int big = text(x, 0, 12, 1);
        due("lower now, 6", x.hit(0, 5), 0);
        due("the first point", x.hit(0, 6), t);
        due("the last point", x.hit(0, 9), t);
        due("below it in the line", x.hit(0, 10), 0);
        due("the high one", x.hit(28, 0), big);
        set(x, span, SHIFT, 10);
        due("shifted: above the high one", x.hit(0, 0), t);
    }

    /** "A style, or a width of the root, that is set to what it was changes nothing." */
    private static void changes() {
        FlowBoxes x = new FlowBoxes();
        int b = box(x, 0, CONTEXT, 1);
        int t = text(x, b, 4, 3);
        int[] first = {0, 0, 0, 0, -1, -1, 0, 0, 0, 0, 0, 0, 0, 0, 1, 0, 0, 1, -1000, -1000, 0};
        int work = x.work();
        for (int style = 0; style <= 20; style++) {
            due("set to what it was", x.style(b, style, first[style]), first[style]);
            due("no work", x.work(), work);
        }
        due("the same width", x.page(60), 60);
        due("no work for that", x.work(), work);
        due("the latest change is that of the word", x.latest(), 2);
        for (int style = 0; style <= 20; style++) {
            int other = style == WIDTH || style == HEIGHT ? 5 : style == CONTEXT ? 2 : style == COLUMNS ? 2 : style >= 18 ? 1 : 2;
            due("the value before", x.style(b, style, style == EVEN ? 1 : other), first[style]);
            due("a change: " + style, x.latest() > 0 && x.work() > work ? 1 : 0, 1);
            x.style(b, style, first[style]);
            due("another change: " + style, x.latest(), 2);
            work = x.work();
        }
        due("a word", x.word(t, 1, 0), 2);
        due("a change", x.latest(), 2);
        due("unword", x.unword(t), 1);
        due("a change, though it is as before", x.latest(), 2);
    }

    /** "It is laid out anew, if these are others, or if a node in it, itself included, was changed since". */
    private static void kept() {
        FlowBoxes x = new FlowBoxes();
        int a = box(x, 0, CONTEXT, 1, WIDTH, 20);
        int b = box(x, a, CONTEXT, 1, HEIGHT, 1050);
        int c = box(x, 0, CONTEXT, 1, WIDTH, 1050);
        set(x, c, MARGIN_LEFT, 1);
        due("itself included", x.latest(), 2);
        set(x, b, MARGIN_LEFT, 1);
        due("all around it", x.latest(), 3);
        set(x, a, MARGIN_LEFT, 1);
        due("not what is in it", x.latest(), 2);
        x.page(61);
        due("60 and 61 have the same half", x.latest(), 1);
        x.page(62);
        due("62 has another one", x.latest(), 2);
        set(x, a, HEIGHT, 1);
        due("b is told 0, and was told none", x.latest(), 3);
        set(x, a, HEIGHT, 0);
        due("b is told 0 again", x.latest(), 2);
        set(x, a, HEIGHT, 2);
        due("b is told 1", x.latest(), 3);
        set(x, a, WIDTH, 21);
        due("b is told another width", x.latest(), 3);
        int t = x.text(c, 0, 4);
        due("a child comes", x.latest(), 2);
        x.remove(t);
        due("a child goes", x.latest(), 2);
        int[] deep = {DISPLAY, 2, FLOAT, 1, POSITION, 1, CONTEXT, 2, COLUMNS, 2};
        for (int k = 0; k < deep.length; k += 2) {
            x.style(a, deep[k], deep[k + 1]);
            due("all in it: " + deep[k], x.latest(), 3);
        }
        int[] flat = {CLEAR, 1, MARGIN_TOP, 1, SHIFT, 1, Z, 1, LEFT, 1, TOP, 1, EVEN, 1, EDGE_TOP, 1, EDGE_LEFT, 1};
        for (int k = 0; k < flat.length; k += 2) {
            x.style(a, flat[k], flat[k + 1]);
            due("it alone: " + flat[k], x.latest(), 2);
        }
    }

    /** "how often contexts that are no tables were laid out, with bars each time ...; with columns once". */
    private static void counted() {
        FlowBoxes x = new FlowBoxes();
        due("at first", x.work(), 1);
        due("the latest, at first", x.latest(), 1);
        int b = box(x, 0);
        due("the root", x.work(), 2);
        set(x, b, DISPLAY, 3);
        due("no table", x.work(), 3);
        set(x, b, FLOAT, 1);
        due("no table that floats", x.work(), 4);
        set(x, b, POSITION, 2);
        due("no absolute one", x.work(), 5);
        set(x, b, DISPLAY, 0);
        due("an absolute box", x.work(), 7);
        set(x, b, COLUMNS, 4);
        due("with columns once", x.work(), 9);
        set(x, b, COLUMNS, 1);
        set(x, b, CONTEXT, 2);
        due("no bars: once", x.latest(), 2);
        text(x, b, 4, 9);
        set(x, b, HEIGHT, 3);
        due("an upright bar, and a flat one: twice", x.latest(), 3);
        set(x, b, WIDTH, 11);
        due("an upright bar: twice", x.latest(), 3);
        set(x, b, WIDTH, 8, HEIGHT, AUTO);
        due("a flat bar: twice", x.latest(), 3);
        set(x, b, HEIGHT, 5);
        due("a flat bar, then an upright one: three times", x.latest(), 4);
        due("both", x.bars(b), 3);
        int work = x.work();
        x.page(50);
        due("told the same: once, the root", x.work(), work + 1);
    }

    /** "behind the latest call that changed something, 1 if there was none". */
    private static void latest() {
        FlowBoxes x = new FlowBoxes();
        x.page(60);
        throwing("refused", 'A', () -> x.page(0));
        throwing("refused, too", 'S', () -> x.remove(0));
        due("none", x.latest(), 1);
        int b = box(x, 0, CONTEXT, 1);
        due("two", x.latest(), 2);
        x.hit(0, 0);
        x.fromNothing(b, 3);
        x.least(b);
        throwing("refused again", 'I', () -> x.remove(2));
        x.style(b, CONTEXT, 1);
        due("still two", x.latest(), 2);
        due("all", x.work(), 1 + 1 + 2);
        x.remove(b);
        due("one", x.latest(), 1);
    }
}
