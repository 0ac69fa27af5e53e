/**
 * Promise 23 where the sides of what is hit are at, or past, the greatest int: "A node is hit by a point that
 * lies in the box with its edges, or in a word, or a piece, of the text, .. the sides at the left and top
 * included". No width is that much, but what stands behind such widths is as far off.
 */
public final class FarOffTest extends Check {
    private static final int GREATEST = Integer.MAX_VALUE;
    /** 2 to the 27. */
    private static final int STEP = 1 << 27;

    public static void main(String[] args) {
        theWidth();
        boxesPastTheGreatest();
        wordsAndPieces();
        boxesInColumns();
        beyondTheGreatest();
        end("FarOffTest");
    }

    /** Even tables in each other, the next one always in the last cell; answers the innermost last cell. */
    private static int tables(FlowBoxes x, int... cells) {
        int cell = 0;
        for (int count : cells) {
            int table = box(x, cell, DISPLAY, 3, EVEN, 1);
            int row = box(x, table);
            for (int k = 0; k < count; k++) cell = box(x, row);
        }
        return cell;
    }

    /** Words one behind the other, in four columns. */
    private static void words(FlowBoxes x, int cell, int[] lengths, int[] counts) {
        int box = box(x, cell, COLUMNS, 4);
        int text = -1;
        int in = 20;
        for (int k = 0; k < lengths.length; k++) {
            for (int word = 0; word < counts[k]; word++) {
                if (in == 20) {
                    text = x.text(box, x.children(box), 1);
                    in = 0;
                }
                x.word(text, lengths[k], 0);
                in++;
            }
        }
    }

    /**
     * The outermost table is 2 to the 28, less 1, wide. A box as wide as it has two columns, each 2 to the 27, less
     * 1, wide, and the height 0, so that each line in it begins a column: the next one is 2 to the 27 more to the
     * right. It stands so far to the right; the box answered is in it, and 5 wide.
     */
    private static int farOff(FlowBoxes x, int left) {
        int cell = tables(x, 8, 8, 8, 4, 4, 4);
        // 48 times 26 and 32 times 25 are 2048; by four columns that is 8192, by 32768 cells 2 to the 28.
        words(x, cell, new int[] {25, 24}, new int[] {48, 32});
        set(x, 1, POSITION, 1, WIDTH, MOST);
        int strip = box(x, 3, POSITION, 2, WIDTH, 1100, HEIGHT, 0, COLUMNS, 2, LEFT, left, TOP, 0);
        return box(x, strip, WIDTH, 5);
    }

    /** 20 words of the length 30, the first one whole, the others in two pieces, 5 and 26 long, a line each. */
    private static int pieces(FlowBoxes x, int box) {
        int text = x.text(box, x.children(box), 2);
        x.word(text, 30, 0);
        for (int k = 1; k < 20; k++) x.word(text, 30, 4);
        return text;
    }

    private static void theWidth() {
        FlowBoxes x = new FlowBoxes();
        int box = farOff(x, 0);
        int strip = box - 1;
        due("16 the most width of the tables", x.most(1), 2 * STEP - 1);
        due("12 as wide", x.width(1), 2 * STEP - 1);
        due("12 all of that", x.width(strip), 2 * STEP - 1);
        int text = pieces(x, box);
        due("18 a line for the first word, and two for each other", x.lines(box), 39);
        due("20 the first word", x.wordAt(text, 0, 0), 0);
        due("20 the next one", x.wordAt(text, 1, 0), STEP);
        due("20 and one more is between", x.wordAt(text, 2, 0), 3 * STEP);
        due("19 the lines likewise", x.line(box, 15, 0), 15 * STEP);
    }

    private static void boxesPastTheGreatest() {
        FlowBoxes x = new FlowBoxes();
        int cell = tables(x, 7, 7, 7, 6, 6, 6);
        words(x, cell, new int[] {30}, new int[] {120});
        set(x, 1, POSITION, 1, WIDTH, MOST);
        int far = box(x, cell, POSITION, 2, WIDTH, 1100, HEIGHT, 5);
        // The last cells are 4 times 3720, less 1, wide; there are 74088 in all.
        place("10 to 13 the box", x, far, 74087 * 14880, 1, 74088 * 14880 - 1, 5);
        due("23 its corner", x.hit(74087 * 14880, 1), far);
        due("23 the point ahead of it", x.hit(74087 * 14880 - 1, 1), -1);
        due("23 above it, the first of the words", x.hit(74087 * 14880, 0), far - 6);
        due("23 within", x.hit(2000000000, 3), far);
        due("23 the greatest, at the lower right", x.hit(GREATEST, 5), far);
        due("23 the greatest, at the top", x.hit(GREATEST, 1), far);
        due("23 above that", x.hit(GREATEST, 0), -1);
        due("23 below", x.hit(74087 * 14880, 6), -1);
        due("23 far to the left", x.hit(Integer.MIN_VALUE, 1), -1);
        due("23 where the right side would be as an int", x.hit(74087 * 14880 + 74088 * 14880 - 2, 1), -1);
        set(x, far, EDGE_LEFT, 20, EDGE_RIGHT, 20, EDGE_TOP, 1, EDGE_BOTTOM, 1);
        due("23 the edge at the left", x.hit(74087 * 14880, 1), far);
        due("23 the edge at the bottom", x.hit(GREATEST, 7), far);
        due("23 no more", x.hit(GREATEST, 8), -1);
        set(x, far, LEFT, -200, TOP, 10);
        due("23 near the left again", x.hit(-200, 10), far);
        due("23 not further", x.hit(-201, 10), -1);
        due("23 up to its right side", x.hit(74088 * 14880 - 1 - 200 + 39, 10), far);
        due("23 and no further", x.hit(74088 * 14880 - 1 - 200 + 40, 10), -1);
    }

    private static void wordsAndPieces() {
        FlowBoxes x = new FlowBoxes();
        int box = farOff(x, -10);
        int text = pieces(x, box);
        // The line 16 holds the rest of the word 8, the line 15 its first piece.
        due("20 the first piece", x.wordAt(text, 8, 0), 15 * STEP - 10);
        due("23 its left side", x.hit(15 * STEP - 10, 0), text);
        due("23 behind it", x.hit(15 * STEP - 5, 0), -1);
        due("19 the rest", x.line(box, 16, 0), GREATEST - 9);
        due("23 the left side of the rest", x.hit(GREATEST - 9, 0), text);
        due("23 ahead of it", x.hit(GREATEST - 10, 0), -1);
        due("23 the greatest", x.hit(GREATEST, 0), text);
        due("23 as high as the size", x.hit(GREATEST, 1), text);
        due("23 no higher", x.hit(GREATEST, 2), -1);
        due("23 not above", x.hit(GREATEST, -1), -1);
        due("23 the other end", x.hit(Integer.MIN_VALUE, 0), -1);
        due("23 near the other end", x.hit(Integer.MIN_VALUE + 5, 0), -1);
        // With the first word gone a line earlier, a first piece stands there.
        x.remove(text);
        int short5 = x.text(box, 0, 2);
        for (int k = 0; k < 20; k++) x.word(short5, 30, 4);
        due("20 now a first piece", x.wordAt(short5, 8, 0), GREATEST - 9);
        due("23 within that", x.hit(GREATEST - 5, 0), short5);
        due("23 behind that", x.hit(GREATEST - 4, 0), -1);
        set(x, box - 1, LEFT, -3);
        due("23 a piece that ends past the greatest", x.hit(GREATEST, 0), short5);
    }

    private static void boxesInColumns() {
        FlowBoxes x = new FlowBoxes();
        int box = farOff(x, -40);
        int text = x.text(box, 0, 2);
        for (int k = 0; k < 17; k++) x.word(text, 9, 0);
        int behind = box(x, box, POSITION, 2, WIDTH, 100, HEIGHT, 5, EDGE_LEFT, 3, EDGE_TOP, 1);
        text(x, box, 2, 9);
        int in = text(x, behind, 3, 30, 30);
        due("10 behind the last word", x.x(behind), GREATEST + 1 - 40 + 9 + 1);
        due("23 its left side", x.hit(GREATEST - 29, 0), behind);
        due("23 between", x.hit(GREATEST - 30, 0), -1);
        due("23 the word ahead", x.hit(GREATEST - 31, 0), text);
        due("23 a word in it", x.hit(GREATEST - 26, 1), in);
        due("23 that word past the greatest", x.hit(GREATEST, 3), in);
        due("23 below the words", x.hit(GREATEST, 4), behind);
        due("23 the bottom", x.hit(GREATEST, 5), behind);
        due("23 below", x.hit(GREATEST, 6), -1);
        set(x, box - 1, LEFT, -20);
        set(x, behind, EDGE_LEFT, 20);
        due("10 further", x.x(behind), GREATEST - 9);
        due("23 its edge", x.hit(GREATEST, 1), behind);
        due("23 no point is in the words in it", x.hit(Integer.MIN_VALUE + 15, 1), -1);
        set(x, box - 1, LEFT, -40);
        set(x, behind, LEFT, 0);
        due("10 at the left side of the strip", x.x(behind), -40);
        due("23 there", x.hit(-40, 0), behind);
        due("23 not at its old place", x.hit(GREATEST, 5), -1);
    }

    private static void beyondTheGreatest() {
        FlowBoxes x = new FlowBoxes();
        int box = farOff(x, 100);
        set(x, box - 1, TOP, -100);
        int text = pieces(x, box);
        due("23 the last word that a point can be in", x.hit(15 * STEP + 100, -100), text);
        due("23 no point is in the next one", x.hit(Integer.MIN_VALUE + 100, -100), -1);
        due("23 nor in the one behind that", x.hit(Integer.MIN_VALUE + STEP + 100, -100), -1);
        // The line 32 is 2 to the 32, and 100 more, to the right.
        due("23 nor in those that are much further", x.hit(100, -99), text);
        due("23 the first word, and no other", x.hit(STEP - 1, -99), -1);
        x.remove(text);
        int wide = x.text(box, 0, 1);
        for (int k = 0; k < 20; k++) x.word(wide, 9, 0);
        int more = x.text(box, 1, 2);
        for (int k = 0; k < 13; k++) x.word(more, 9, 0);
        int behind = box(x, box, POSITION, 2, WIDTH, 100, HEIGHT, 5);
        due("23 the first word", x.hit(100, -100), wide);
        due("23 below it, and not the other words", x.hit(100, -99), box);
        // The box is below the line 32, and so 2 to the 32, and 100 more, to the right.
        due("11 the box behind them", x.y(behind), -98);
        due("23 no point is in it", x.hit(110, -98), -1);
        set(x, behind, LEFT, 0);
        due("23 the box, when it is near", x.hit(110, -98), behind);
    }
}
