/** Promises 18 to 20: lines and words. */
public final class LinesTest extends Check {
    public static void main(String[] args) {
        exceptions();
        plainLines();
        cuts();
        heights();
        besideFloats();
        floatsInLines();
        runs();
        negativeWidths();
        end("LinesTest");
    }

    private static void exceptions() {
        FlowBoxes x = new FlowBoxes();
        int t = text(x, 0, 4, 3);
        int span = box(x, 0, DISPLAY, 1);
        int table = box(x, 0, DISPLAY, 3);
        int row = box(x, table);
        int cell = box(x, row);
        int out = text(x, row, 4, 3);
        for (int box : new int[] {span, table, row}) {
            throwing("18 no lines in " + box, 'S', () -> x.lines(box));
            throwing("19 no lines in " + box, 'S', () -> x.line(box, 0, 0));
            throwing("19 ahead of the line in " + box, 'S', () -> x.line(box, -1, 0));
            throwing("19 what ahead of that in " + box, 'A', () -> x.line(box, 0, 5));
        }
        for (int box : new int[] {-1, t, out, 60}) {
            throwing("18 no box " + box, 'I', () -> x.lines(box));
            throwing("19 no box " + box, 'I', () -> x.line(box, 0, 9));
        }
        due("18 a cell", x.lines(cell), 0);
        throwing("19 none in the cell", 'I', () -> x.line(cell, 0, 0));
        throwing("19 line below 0", 'I', () -> x.line(0, -1, 0));
        throwing("19 line ahead of what", 'I', () -> x.line(0, 1, 5));
        throwing("19 what below 0", 'A', () -> x.line(0, 0, -1));
        throwing("19 what 5", 'A', () -> x.line(0, 0, 5));
        throwing("20 a box", 'I', () -> x.wordAt(0, 0, 0));
        throwing("20 word below 0", 'I', () -> x.wordAt(t, -1, 0));
        throwing("20 no such word", 'I', () -> x.wordAt(t, 1, 3));
        throwing("20 what 3", 'A', () -> x.wordAt(t, 0, 3));
        throwing("20 what below 0", 'A', () -> x.wordAt(t, 0, -1));
        throwing("20 out", 'S', () -> x.wordAt(out, 0, 0));
        throwing("20 out, but no such word", 'I', () -> x.wordAt(out, 1, 0));
        throwing("20 out, but a bad what", 'A', () -> x.wordAt(out, 0, 3));
    }

    /** The left side, top, width, height and ascent of a line. */
    private static void line(String what, FlowBoxes x, int box, int line, int... sides) {
        for (int k = 0; k < sides.length; k++) due(what + ": " + k, x.line(box, line, k), sides[k]);
    }

    private static void word(String what, FlowBoxes x, int text, int word, int... sides) {
        for (int k = 0; k < sides.length; k++) due(what + ": " + k, x.wordAt(text, word, k), sides[k]);
    }

    private static void plainLines() {
        FlowBoxes x = new FlowBoxes();
        x.page(10);
        int b = box(x, 0, EDGE_LEFT, 2, EDGE_TOP, 1);
        int t = text(x, b, 4, 4, 3, 1, 9, 2);
        due("18 lines", x.lines(b), 4);
        due("18 of the root", x.lines(0), 0);
        line("19 first", x, b, 0, 2, 1, 8, 4, 3);
        line("19 second", x, b, 1, 2, 5, 1, 4, 3);
        line("19 too wide a word", x, b, 2, 2, 9, 9, 4, 3);
        line("19 last", x, b, 3, 2, 13, 2, 4, 3);
        word("20 first", x, t, 0, 2, 1, 4);
        word("20 second", x, t, 1, 7, 1, 3);
        word("20 third", x, t, 2, 2, 5, 1);
        word("20 too wide", x, t, 3, 2, 9, 9);
        place("the box", x, b, 0, 0, 10, 17);
    }

    private static void cuts() {
        FlowBoxes x = new FlowBoxes();
        x.page(10);
        int t = text(x, 0, 4, 4);
        x.word(t, 8, 3);
        x.word(t, 4, 2);
        line("19 with the piece", x, 0, 0, 0, 0, 9, 4, 3);
        line("19 with the rest", x, 0, 1, 0, 4, 10, 4, 3);
        word("20 the piece", x, t, 1, 5, 0, 4);
        word("20 behind the rest", x, t, 2, 6, 4, 4);
        x.page(8);
        word("20 the piece does not fit", x, t, 1, 0, 4, 8);
        due("18 three lines", x.lines(0), 3);
        x.page(5);
        word("20 a piece in an empty line", x, t, 1, 0, 4, 4);
        line("19 the rest alone", x, 0, 2, 0, 8, 5, 4, 3);
        x.page(4);
        line("19 the rest is not cut", x, 0, 2, 0, 8, 5, 4, 3);
        x.page(3);
        word("20 too wide, so whole", x, t, 1, 0, 4, 8);
        word("20 its piece fits", x, t, 2, 0, 8, 3);
        x.page(60);
        word("20 no piece", x, t, 1, 5, 0, 8);
    }

    private static void heights() {
        FlowBoxes x = new FlowBoxes();
        int a = text(x, 0, 4, 2);
        int s = box(x, 0, DISPLAY, 1, SHIFT, 3);
        int b = text(x, s, 10, 2);
        int t = box(x, s, DISPLAY, 1, SHIFT, -10);
        int c = text(x, t, 1, 2);
        // Ascents 3, 7 + 3, 0 - 7; descents 1, 3 - 3, 1 + 7.
        line("19 shifts", x, 0, 0, 0, 0, 8, 18, 10);
        word("20 plain", x, a, 0, 0, 7, 2);
        word("20 up", x, b, 0, 3, 0, 2);
        word("20 down", x, c, 0, 6, 17, 2);
        x.unword(a);
        x.unword(b);
        line("19 an ascent below 0", x, 0, 0, 0, 0, 2, 1, -7);
        word("20 at its top", x, c, 0, 0, 0, 2);
        int i = x.box(0, 0);
        set(x, i, DISPLAY, 2, MARGIN_TOP, -9, WIDTH, 4);
        set(x, t, SHIFT, -3);
        // The block has -9 and 0; the word 0 and 1.
        line("19 a block above the line", x, 0, 0, 0, 0, 7, 1, 0);
        place("its top", x, i, 0, 0, 4, 0);
        x.unword(c);
        line("19 not below 0", x, 0, 0, 0, 0, 4, 0, -9);
    }

    private static void besideFloats() {
        FlowBoxes x = new FlowBoxes();
        x.page(20);
        int f = box(x, 0, FLOAT, 1, WIDTH, 8, HEIGHT, 5);
        int g = box(x, 0, FLOAT, 2, WIDTH, 6, HEIGHT, 9);
        int t = text(x, 0, 4, 6);
        x.word(t, 7, 2);
        x.word(t, 15, 0);
        x.word(t, 16, 13);
        line("19 between", x, 0, 0, 8, 0, 6, 4, 3);
        line("19 between, cut no more than needed", x, 0, 1, 8, 4, 3, 4, 3);
        word("20 a piece that fits", x, t, 1, 8, 4, 3);
        line("19 the rest at the next line", x, 0, 2, 0, 8, 5, 4, 3);
        line("19 below all", x, 0, 3, 0, 12, 15, 4, 3);
        due("18 five lines", x.lines(0), 5);
        x.page(19);
        word("20 lower, as nothing fits", x, t, 0, 0, 5, 6);
        line("19 and so on, with a piece", x, 0, 0, 0, 5, 10, 4, 3);
        set(x, f, WIDTH, 19);
        set(x, g, WIDTH, 19);
        word("20 below both", x, t, 0, 0, 14, 6);
        set(x, f, HEIGHT, 0);
        set(x, g, HEIGHT, 0);
        word("20 floats of the height 0", x, t, 0, 0, 0, 6);
    }

    private static void floatsInLines() {
        FlowBoxes x = new FlowBoxes();
        x.page(20);
        int t = text(x, 0, 4, 5);
        int f = box(x, 0, FLOAT, 1, WIDTH, 6, HEIGHT, 5);
        int g = box(x, 0, FLOAT, 2, WIDTH, 9, HEIGHT, 3);
        int h = box(x, 0, FLOAT, 1, WIDTH, 2, HEIGHT, 1);
        int u = text(x, 0, 4, 5);
        // 20 less 5 has room for 6; 14 less 5 has room for 9; none for 2, which waits.
        place("at y", x, f, 0, 0, 6, 5);
        place("just fits", x, g, 11, 0, 9, 3);
        word("20 moved by the float", x, t, 0, 6, 0, 5);
        place("waits for the new y", x, h, 6, 4, 2, 1);
        word("20 behind the one that waited", x, u, 0, 8, 4, 5);
        set(x, g, WIDTH, 10);
        place("too wide now, so it waits", x, g, 10, 4, 10, 3);
        place("the next one is put", x, h, 6, 0, 2, 1);
        word("20 the line goes on behind both", x, u, 0, 14, 0, 5);
        x.unword(u);
        place("a text without words ends the run, too", x, f, 0, 0, 6, 5);
        x.remove(u);
        place("behind the run", x, f, 0, 4, 6, 5);
        word("20 not beside it", x, t, 0, 0, 0, 5);
        int s = x.box(0, 0);
        set(x, s, DISPLAY, 1);
        int k = box(x, s, FLOAT, 1, WIDTH, 3, HEIGHT, 1);
        place("first in the run", x, k, 0, 0, 3, 1);
        word("20 behind the first float", x, t, 0, 3, 0, 5);
    }

    private static void runs() {
        FlowBoxes x = new FlowBoxes();
        x.page(20);
        int t = text(x, 0, 4, 3);
        int b = box(x, 0, HEIGHT, 2, MARGIN_TOP, 1, MARGIN_BOTTOM, 3);
        int u = text(x, 0, 4, 4);
        due("18 two runs", x.lines(0), 2);
        line("19 first run", x, 0, 0, 0, 0, 3, 4, 3);
        line("19 second run", x, 0, 1, 0, 10, 4, 4, 3);
        set(x, b, DISPLAY, 1);
        due("18 one run", x.lines(0), 1);
        line("19 one run", x, 0, 0, 0, 0, 8, 4, 3);
        set(x, b, DISPLAY, 2, WIDTH, 2);
        line("19 a block in it", x, 0, 0, 0, 0, 11, 7, 6);
        word("20 behind the block", x, u, 0, 7, 3, 4);
        set(x, b, FLOAT, 2);
        line("19 a float in it", x, 0, 0, 0, 0, 8, 4, 3);
        due("the float", x.x(b), 18);
        set(x, b, FLOAT, 0, POSITION, 2);
        line("19 an absolute box in it", x, 0, 0, 0, 0, 8, 4, 3);
        place("its static place, and its margin", x, b, 4, 1, 2, 2);
        x.remove(t);
        x.remove(u);
        due("18 none", x.lines(0), 0);
    }

    private static void negativeWidths() {
        FlowBoxes x = new FlowBoxes();
        x.page(10);
        int t = text(x, 0, 4, 6);
        int i = box(x, 0, DISPLAY, 2, WIDTH, 3, HEIGHT, 2, MARGIN_LEFT, -5);
        int u = text(x, 0, 4, 4);
        // 6, 1, -2, 1, 4: they stand one behind the other all the same.
        line("19 an outer width below 0", x, 0, 0, 0, 0, 10, 4, 3);
        place("it stands on the word", x, i, 2, 1, 3, 2);
        word("20 behind it", x, u, 0, 6, 0, 4);
        due("20 the first", x.wordAt(t, 0, 0), 0);
    }
}
