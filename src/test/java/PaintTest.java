/** Promises 21 to 23: painting and hits. */
public final class PaintTest extends Check {
    public static void main(String[] args) {
        exceptions();
        steps();
        stacks();
        wholes();
        tables();
        hits();
        hitsOfPieces();
        end("PaintTest");
    }

    private static void exceptions() {
        FlowBoxes x = new FlowBoxes();
        due("21 the root", x.painted(), 1);
        throwing("22 below 0", 'I', () -> x.paint(-1));
        throwing("22 past the end", 'I', () -> x.paint(1));
        throwing("22 far off", 'I', () -> x.paint(Integer.MAX_VALUE));
        int t = x.text(0, 0, 4);
        due("21 a text without words", x.painted(), 2);
        due("22 it, too", x.paint(1), t);
        x.remove(t);
        throwing("22 gone", 'I', () -> x.paint(1));
    }

    private static void steps() {
        FlowBoxes x = new FlowBoxes();
        int t = text(x, 0, 4, 2);
        int f = box(x, 0, FLOAT, 1);
        int b = box(x, 0);
        int u = text(x, b, 4, 2);
        int g = box(x, b, FLOAT, 2);
        int c = box(x, b, CONTEXT, 1);
        int s = box(x, 0, DISPLAY, 1);
        int h = box(x, s, FLOAT, 1);
        int i = box(x, s);
        int v = text(x, s, 4, 2);
        order("22 blocks, floats, the rest", x, 0, b, c, f, g, h, t, u, s, i, v);
    }

    private static void stacks() {
        FlowBoxes x = new FlowBoxes();
        int[] boxes = new int[7];
        int[] zs = {0, 3, -1, -9, 3, 0, -1};
        for (int k = 0; k < 7; k++) boxes[k] = box(x, 0, POSITION, 1 + k % 2, Z, zs[k]);
        int t = text(x, 0, 4, 2);
        int plain = box(x, 0, Z, 9);
        order("22 by Z", x, 0, boxes[3], boxes[2], boxes[6], plain, t, boxes[0], boxes[5], boxes[1], boxes[4]);
        int in = box(x, boxes[4], POSITION, 1, Z, -5);
        int deep = box(x, plain, POSITION, 2, Z, -1);
        int span = box(x, 0, DISPLAY, 1, POSITION, 1, Z, -3);
        order("22 stacks in stacks", x, 0, boxes[3], boxes[2], boxes[6], deep, plain, t, span, boxes[0], boxes[5],
                boxes[1], boxes[4], in);
        set(x, boxes[4], POSITION, 0);
        order("22 no stack any more", x, 0, boxes[3], in, boxes[2], boxes[6], deep, boxes[4], plain, t, span,
                boxes[0], boxes[5], boxes[1]);
    }

    private static void wholes() {
        FlowBoxes x = new FlowBoxes();
        int f = box(x, 0, FLOAT, 1);
        int b = box(x, f);
        int t = text(x, b, 4, 2);
        int g = box(x, b, FLOAT, 1);
        int p = box(x, g, POSITION, 1, Z, -1);
        int q = box(x, g, POSITION, 1);
        int c = box(x, 0);
        int i = box(x, c, DISPLAY, 2);
        int u = text(x, i, 4, 2);
        int d = box(x, i);
        int v = text(x, c, 4, 2);
        order("22 as a whole", x, 0, p, c, f, b, g, t, i, d, u, v, q);
        set(x, f, POSITION, 1);
        order("22 a float that is a stack", x, 0, c, i, d, u, v, f, p, b, g, t, q);
        set(x, i, POSITION, 1, Z, -2);
        order("22 an inline block that is a stack", x, 0, i, d, u, c, v, f, p, b, g, t, q);
    }

    private static void tables() {
        FlowBoxes x = new FlowBoxes();
        int t = box(x, 0, DISPLAY, 3);
        int r = box(x, t, POSITION, 1, Z, -1);
        int c = box(x, r, FLOAT, 1);
        int w = text(x, c, 4, 2);
        int out = text(x, t, 4, 2);
        int outToo = text(x, r, 4, 2);
        int b = box(x, 0);
        order("22 what is out is not painted", x, 0, t, r, c, b, w);
        set(x, t, DISPLAY, 0);
        order("22 no table any more", x, 0, r, c, w, outToo, t, b, out);
    }

    private static void hits() {
        FlowBoxes x = new FlowBoxes();
        due("23 nothing", x.hit(0, 0), -1);
        x.page(20);
        int b = box(x, 0, HEIGHT, 5, EDGE_LEFT, 2, EDGE_TOP, 1, MARGIN_LEFT, 3, MARGIN_TOP, 4);
        due("23 in the margin", x.hit(2, 6), 0);
        due("23 above", x.hit(5, 3), 0);
        due("23 the corner", x.hit(3, 4), b);
        due("23 the last point", x.hit(19, 9), b);
        due("23 beside", x.hit(20, 9), -1);
        due("23 below", x.hit(3, 10), -1);
        due("23 far off", x.hit(Integer.MIN_VALUE, Integer.MAX_VALUE), -1);
        int s = box(x, b, DISPLAY, 1);
        int t = text(x, s, 4, 3, 2);
        due("23 a word", x.hit(5, 5), t);
        due("23 between the words", x.hit(8, 5), b);
        due("23 the next word", x.hit(9, 5), t);
        due("23 behind the words", x.hit(11, 5), b);
        due("23 below the words", x.hit(5, 9), b);
        int a = box(x, b, POSITION, 2, LEFT, -1, TOP, -1, WIDTH, 7, HEIGHT, 9, Z, -1);
        due("23 below the block in the order", x.hit(5, 5), t);
        due("23 out of the root", x.hit(-1, -1), a);
        set(x, a, Z, 0);
        due("23 above the words", x.hit(5, 5), a);
    }

    private static void hitsOfPieces() {
        FlowBoxes x = new FlowBoxes();
        x.page(7);
        int t = x.text(0, 0, 5);
        x.word(t, 9, 4);
        int u = text(x, 0, 8, 1);
        // The first piece is 5 long in a line 5 high; the rest is beside a higher word.
        due("23 the first piece", x.hit(4, 4), t);
        due("23 behind it", x.hit(5, 4), 0);
        due("23 ahead of the rest, above it", x.hit(0, 7), 0);
        due("23 the rest", x.hit(4, 8), t);
        due("23 as high as the size", x.hit(4, 12), t);
        due("23 no higher", x.hit(4, 13), -1);
        int table = box(x, 0, DISPLAY, 3);
        int row = box(x, table);
        int cell = box(x, row, EDGE_TOP, 2, EDGE_LEFT, 3);
        int w = text(x, table, 4, 6);
        due("23 a cell", x.hit(2, x.y(cell) + 1), cell);
        due("23 what is out is not hit", x.hit(5, x.y(cell) + 3), -1);
        set(x, table, WIDTH, 6);
        due("23 a row", x.hit(5, x.y(row)), row);
        due("21 all but what is out", x.painted(), 6);
        throwing("20 it is out", 'S', () -> x.wordAt(w, 0, 0));
        due("the word beside the rest", x.x(u), 6);
    }
}
