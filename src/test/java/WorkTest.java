/** Promises 24, 25 and 14: the memory. */
public final class WorkTest extends Check {
    public static void main(String[] args) {
        plainContexts();
        nothingChanged();
        throwsChangeNothing();
        reachInside();
        tables();
        bars();
        columns();
        absoluteBoxes();
        toldHeights();
        fromNothing();
        end("WorkTest");
    }

    private static void plainContexts() {
        FlowBoxes x = new FlowBoxes();
        due("24 at first", x.work(), 1);
        due("25 at first", x.latest(), 1);
        int a = box(x, 0);
        due("25 a block", x.latest(), 1);
        int b = box(x, a);
        set(x, a, CONTEXT, 1);
        due("25 a context", x.latest(), 2);
        set(x, b, CONTEXT, 1);
        due("25 a context in it", x.latest(), 3);
        int c = box(x, 0, CONTEXT, 1);
        due("25 one beside", x.latest(), 2);
        set(x, c, Z, 3);
        due("25 any style of it", x.latest(), 2);
        set(x, a, Z, 3);
        due("25 what is in it is kept", x.latest(), 2);
        text(x, b, 4, 3);
        due("25 all around it", x.latest(), 3);
        due("24 all together", x.work(), 1 + 1 + 1 + 2 + 3 + 1 + 2 + 2 + 2 + 3 + 3);
        set(x, a, WIDTH, 20);
        due("25 what is in it is told another width", x.latest(), 3);
        x.page(30);
        due("25 c is told another width", x.latest(), 2);
        set(x, c, FLOAT, 1);
        due("25 a float", x.latest(), 2);
        set(x, c, FLOAT, 0, DISPLAY, 2);
        due("25 an inline block", x.latest(), 2);
        x.remove(c);
        due("25 one goes", x.latest(), 1);
        x.unword(3 + 1);
        due("25 a word goes", x.latest(), 3);
    }

    private static void nothingChanged() {
        FlowBoxes x = new FlowBoxes();
        int a = box(x, 0, CONTEXT, 1);
        due("24", x.work(), 4);
        set(x, a, CONTEXT, 1, HEIGHT, -1, COLUMNS, 1);
        x.page(60);
        due("24 the same styles", x.work(), 4);
        due("25 the same styles", x.latest(), 2);
        x.hit(1, 1);
        x.most(a);
        x.fromNothing(a, 2);
        due("24 asking", x.work(), 4);
        due("25 asking", x.latest(), 2);
    }

    private static void throwsChangeNothing() {
        FlowBoxes x = new FlowBoxes();
        int t = text(x, 0, 4, 2);
        int work = x.work();
        throwing("24 box", 'I', () -> x.box(9, 0));
        throwing("24 text", 'A', () -> x.text(0, 0, 99));
        throwing("24 word", 'A', () -> x.word(t, 0, 0));
        throwing("24 unword", 'I', () -> x.unword(0));
        throwing("24 remove", 'S', () -> x.remove(0));
        throwing("24 style", 'S', () -> x.style(0, 0, 1));
        throwing("24 page", 'A', () -> x.page(0));
        due("24 nothing", x.work(), work);
        due("24 no number was used", x.box(0, 0), 2);
    }

    private static void reachInside() {
        FlowBoxes x = new FlowBoxes();
        int a = box(x, 0, WIDTH, 20);
        int b = box(x, a, CONTEXT, 1, WIDTH, 10);
        int c = box(x, b, CONTEXT, 1, WIDTH, 5);
        set(x, a, MARGIN_LEFT, 3);
        due("25 a margin", x.latest(), 1);
        set(x, a, POSITION, 1);
        due("25 a position", x.latest(), 3);
        set(x, a, LEFT, 9);
        due("25 a move", x.latest(), 1);
        set(x, a, FLOAT, 2);
        due("25 a float", x.latest(), 4);
        set(x, a, CLEAR, 2);
        due("25 itself included", x.latest(), 2);
        set(x, a, CONTEXT, 1);
        due("25 a context", x.latest(), 4);
        set(x, a, COLUMNS, 2);
        due("25 columns", x.latest(), 4);
        set(x, a, DISPLAY, 2);
        due("25 a display that does not count", x.latest(), 4);
        set(x, b, COLUMNS, 2);
        due("25 columns that do not count", x.latest(), 4);
        set(x, b, SHIFT, 2);
        due("25 c is kept", x.latest(), 3);
        set(x, c, SHIFT, 2);
        due("25 c", x.latest(), 4);
    }

    private static void tables() {
        FlowBoxes x = new FlowBoxes();
        int t = box(x, 0, DISPLAY, 3);
        due("25 a table is not counted", x.latest(), 1);
        int r = box(x, t);
        int a = box(x, r);
        int b = box(x, r);
        due("25 a new cell; the other is told the same", x.latest(), 2);
        text(x, a, 4, 3);
        due("25 one cell", x.latest(), 2);
        due("the other is not told another width", x.width(b), 0);
        set(x, t, EVEN, 1);
        due("25 the other is told another width", x.latest(), 2);
        due("3 and 3", x.width(b), 3);
        int out = text(x, t, 4);
        due("25 a text that is out", x.latest(), 1);
        x.word(out, 5, 0);
        due("25 its word", x.latest(), 1);
        set(x, b, HEIGHT, 50);
        due("25 a cell's height", x.latest(), 2);
        due("the other is as high", x.height(a), 50);
        set(x, b, HEIGHT, 1);
        due("the kept one has its own height", x.height(a), 4);
        set(x, t, DISPLAY, 0);
        due("25 no cells any more", x.latest(), 1);
    }

    private static void bars() {
        FlowBoxes x = new FlowBoxes();
        int s = box(x, 0, CONTEXT, 2, HEIGHT, 4);
        int a = box(x, s, CONTEXT, 1);
        int b = box(x, s, CONTEXT, 1, WIDTH, 5);
        due("25 no bars", x.latest(), 3);
        text(x, a, 5, 1);
        // The first time it is 60 wide, then 58: a is told both, b the same each time.
        due("25 twice, and a twice", x.latest(), 5);
        set(x, b, Z, 1);
        due("25 a was told 58 the last time, so it is told others twice", x.latest(), 1 + 2 + 2 + 1);
        set(x, a, WIDTH, 3);
        due("25 a is told 3 each time", x.latest(), 1 + 2 + 1);
        due("17 no flat one", x.bars(s), 1);
        set(x, b, WIDTH, 59);
        due("25 both at once", x.latest(), 4);
        due("17 both", x.bars(s), 3);
        set(x, a, HEIGHT, 3);
        due("25 no bars, so once", x.latest(), 1 + 1 + 1);
        set(x, b, WIDTH, 61);
        due("17 from flat to upright", x.bars(s), 3);
        due("25 three times, and b once", x.latest(), 1 + 3 + 1);
        int u = box(x, 0, HEIGHT, 1);
        due("25 the box is kept", x.latest(), 1);
        due("17 its bars, too", x.bars(s), 3);
        due("what is behind it", x.y(u), 4);
    }

    private static void columns() {
        FlowBoxes x = new FlowBoxes();
        int c = box(x, 0, COLUMNS, 3);
        int t = text(x, c, 4, 15, 15, 15, 15);
        due("25 with columns once", x.latest(), 2);
        int in = box(x, c, CONTEXT, 1);
        due("25 and what is in them", x.latest(), 3);
        set(x, in, CONTEXT, 2, HEIGHT, 1);
        due("the words stay in columns", x.wordAt(t, 3, 0), 20);
        int beside = box(x, 0);
        due("25 kept", x.latest(), 1);
        due("kept in their columns", x.wordAt(t, 3, 0), 20);
        set(x, beside, HEIGHT, 3);
        due("kept", x.y(in), x.fromNothing(in, 1));
    }

    private static void absoluteBoxes() {
        FlowBoxes x = new FlowBoxes();
        int p = box(x, 0, POSITION, 1);
        int a = box(x, p, POSITION, 2, WIDTH, 1050);
        int b = box(x, a, POSITION, 2, WIDTH, 7);
        due("25 all that were changed", x.latest(), 3);
        set(x, p, MARGIN_TOP, 3);
        due("25 nothing told to them", x.latest(), 1);
        set(x, p, WIDTH, 20);
        due("25 a is told another width", x.latest(), 2);
        set(x, a, HEIGHT, 1050);
        due("25 still unknown", x.latest(), 2);
        set(x, p, HEIGHT, 8);
        due("25 a is told another height", x.latest(), 2);
        due("half of it", x.height(a), 4);
        set(x, b, HEIGHT, 1050);
        due("25 b changed, so all around it", x.latest(), 3);
        due("half of that", x.height(b), 2);
        set(x, b, LEFT, 3);
        due("25 a move, too", x.latest(), 3);
    }

    private static void toldHeights() {
        FlowBoxes x = new FlowBoxes();
        int p = box(x, 0);
        int c = box(x, p, CONTEXT, 1, HEIGHT, 1050);
        int d = box(x, p, CONTEXT, 1);
        set(x, p, HEIGHT, 10);
        due("25 c is told a height", x.latest(), 2);
        due("5 of 10", x.height(c), 5);
        set(x, p, HEIGHT, 11);
        due("25 c is told the same", x.latest(), 1);
        set(x, d, CONTEXT, 0);
        due("25 d is no context any more", x.latest(), 1);
        set(x, d, CONTEXT, 1);
        due("25 it is one again, and was changed", x.latest(), 2);
    }

    private static void fromNothing() {
        FlowBoxes x = new FlowBoxes();
        int s = box(x, 0, CONTEXT, 2, HEIGHT, 3);
        int a = box(x, s, CONTEXT, 1);
        int t = text(x, a, 4, 30, 30);
        int work = x.work();
        due("14 x", x.fromNothing(t, 0), 0);
        due("14 y", x.fromNothing(t, 1), 0);
        due("14 width", x.fromNothing(a, 2), 58);
        due("14 height", x.fromNothing(a, 3), 8);
        due("24 not counted", x.work(), work);
        set(x, s, Z, 1);
        // The memory was told 58, and is so still.
        due("25 not remembered", x.latest(), 1 + 2 + 2);
    }
}
