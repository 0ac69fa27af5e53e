/** Promises 1 to 9: the tree. */
public final class TreeTest extends Check {
    public static void main(String[] args) {
        newObject();
        boxes();
        texts();
        words();
        unwords();
        removes();
        childCounts();
        styles();
        styleRanges();
        pages();
        end("TreeTest");
    }

    /** Promise 1. */
    private static void newObject() {
        FlowBoxes x = new FlowBoxes();
        due("1 children", x.children(0), 0);
        place("1 root", x, 0, 0, 0, 60, 0);
        due("1 work", x.work(), 1);
        due("1 latest", x.latest(), 1);
        order("1 order", x, 0);
        throwing("1 no second node", 'I', () -> x.children(1));
    }

    /** Promise 2. */
    private static void boxes() {
        FlowBoxes x = new FlowBoxes();
        due("2 first", x.box(0, 0), 1);
        due("2 ahead", x.box(0, 0), 2);
        due("2 between", x.box(0, 1), 3);
        due("2 behind", x.box(0, 3), 4);
        due("2 inside", x.box(3, 0), 5);
        order("2 order", x, 0, 2, 3, 5, 1, 4);
        due("2 text", x.text(0, 4, 1), 6);
        throwing("2 place below 0", 'I', () -> x.box(0, -1));
        throwing("2 place too far", 'I', () -> x.box(0, 6));
        throwing("2 no such box", 'I', () -> x.box(7, 0));
        throwing("2 below 0", 'I', () -> x.box(-1, 0));
        throwing("2 in a text", 'I', () -> x.box(6, 0));
        due("2 nothing changed", x.work(), 7);
        deepest();
        sixty();
    }

    private static void deepest() {
        FlowBoxes x = new FlowBoxes();
        int at = 0;
        for (int depth = 1; depth <= 20; depth++) at = x.box(at, 0);
        due("2 deepest", at, 20);
        throwing("2 too deep", 'S', () -> x.box(20, 0));
        throwing("2 place ahead of too deep", 'I', () -> x.box(20, 1));
        throwing("3 too deep", 'S', () -> x.text(20, 0, 4));
        throwing("3 size ahead of too deep", 'A', () -> x.text(20, 0, 0));
        due("3 as deep as may be", x.text(19, 0, 4), 21);
    }

    private static void sixty() {
        FlowBoxes x = new FlowBoxes();
        for (int node = 1; node < 60; node++) due("2 numbers", x.box(0, 0), node);
        throwing("2 sixty", 'S', () -> x.box(0, 0));
        throwing("3 sixty", 'S', () -> x.text(0, 0, 4));
        throwing("3 size ahead of sixty", 'A', () -> x.text(0, 0, 21));
        throwing("2 place ahead of sixty", 'I', () -> x.box(0, 60));
        due("6 one goes", x.remove(59), 1);
        throwing("2 sixty ever", 'S', () -> x.box(0, 0));
        throwing("2 gone ahead of sixty", 'I', () -> x.box(59, 0));
    }

    /** Promise 3. */
    private static void texts() {
        FlowBoxes x = new FlowBoxes();
        due("3 first", x.text(0, 0, 1), 1);
        due("3 largest", x.text(0, 0, 20), 2);
        x.word(1, 2, 0);
        x.word(2, 3, 0);
        due("3 ahead stands ahead", x.x(2), 0);
        due("3 behind stands behind", x.x(1), 4);
        throwing("3 size 0", 'A', () -> x.text(0, 0, 0));
        throwing("3 size 21", 'A', () -> x.text(0, 0, 21));
        throwing("3 place", 'I', () -> x.text(0, 3, 0));
        throwing("3 place below 0", 'I', () -> x.text(0, -1, 4));
        throwing("3 in a text", 'I', () -> x.text(1, 0, 4));
        throwing("3 no such box", 'I', () -> x.text(9, 0, 0));
        throwing("3 no words", 'S', () -> x.x(x.text(0, 0, 4)));
    }

    /** Promise 4. */
    private static void words() {
        FlowBoxes x = new FlowBoxes();
        int t = x.text(0, 0, 4);
        due("4 first", x.word(t, 1, 0), 1);
        due("4 longest", x.word(t, 30, 29), 2);
        due("4 length", x.wordAt(t, 1, 2), 30);
        throwing("4 length 0", 'A', () -> x.word(t, 0, 0));
        throwing("4 length 31", 'A', () -> x.word(t, 31, 0));
        throwing("4 cut below 0", 'A', () -> x.word(t, 5, -1));
        throwing("4 cut at the end", 'A', () -> x.word(t, 5, 5));
        throwing("4 cut of a letter", 'A', () -> x.word(t, 1, 1));
        throwing("4 a box", 'I', () -> x.word(0, 1, 0));
        throwing("4 a box, and a bad length", 'I', () -> x.word(0, 0, 0));
        throwing("4 none such", 'I', () -> x.word(2, 1, 0));
        for (int k = 3; k <= 20; k++) due("4 more", x.word(t, 1, 0), k);
        throwing("4 twenty", 'S', () -> x.word(t, 1, 0));
        throwing("4 length ahead of twenty", 'A', () -> x.word(t, 0, 0));
    }

    /** Promise 5. */
    private static void unwords() {
        FlowBoxes x = new FlowBoxes();
        int t = text(x, 0, 4, 3, 5);
        due("5 one goes", x.unword(t), 1);
        due("5 the first one stays", x.width(t), 3);
        due("5 the line", x.line(0, 0, 2), 3);
        due("5 none left", x.unword(t), 0);
        throwing("5 none", 'S', () -> x.unword(t));
        throwing("5 a box", 'I', () -> x.unword(0));
        throwing("5 none such", 'I', () -> x.unword(-1));
        due("5 a new one", x.word(t, 7, 0), 1);
        due("5 its length", x.width(t), 7);
    }

    /** Promise 6. */
    private static void removes() {
        FlowBoxes x = new FlowBoxes();
        int a = box(x, 0, HEIGHT, 5);
        int b = box(x, 0);
        int c = box(x, b, HEIGHT, 7);
        int t = text(x, c, 4, 3);
        int d = box(x, 0, HEIGHT, 2);
        due("6 ahead", x.y(d), 12);
        due("6 three go", x.remove(b), 3);
        due("6 what is behind comes up", x.y(d), 5);
        due("6 children", x.children(0), 2);
        throwing("6 gone", 'I', () -> x.remove(b));
        throwing("6 gone inside", 'I', () -> x.y(t));
        throwing("6 gone inside, a box", 'I', () -> x.children(c));
        throwing("6 the root", 'S', () -> x.remove(0));
        throwing("6 none such", 'I', () -> x.remove(60));
        due("6 the first one", x.remove(a), 1);
        due("6 the last one", x.remove(d), 1);
        due("6 none left", x.children(0), 0);
        due("6 numbers go on", x.box(0, 0), 6);
    }

    /** Promise 7. */
    private static void childCounts() {
        FlowBoxes x = new FlowBoxes();
        int b = box(x, 0);
        int t = text(x, 0, 4);
        box(x, b);
        due("7 of the root", x.children(0), 2);
        due("7 of a box", x.children(b), 1);
        throwing("7 of a text", 'I', () -> x.children(t));
        throwing("7 none such", 'I', () -> x.children(4));
        throwing("7 far off", 'I', () -> x.children(Integer.MAX_VALUE));
    }

    /** Promise 8. */
    private static void styles() {
        FlowBoxes x = new FlowBoxes();
        int b = box(x, 0);
        int t = text(x, 0, 4);
        int[] first = {0, 0, 0, 0, -1, -1, 0, 0, 0, 0, 0, 0, 0, 0, 0, 0, 0, 1, -1000, -1000, 0};
        for (int style = 0; style <= 20; style++) {
            int s = style;
            due("8 at first", x.style(b, style, first[style]), first[style]);
            throwing("8 the root's", 'S', () -> x.style(0, s, first[s]));
            throwing("8 a text's", 'I', () -> x.style(t, s, first[s]));
        }
        due("8 nothing changed", x.work(), 3);
        due("8 before", x.style(b, WIDTH, 7), -1);
        due("8 before again", x.style(b, WIDTH, -4), 7);
        throwing("8 style below 0", 'A', () -> x.style(b, -1, 0));
        throwing("8 style 21", 'A', () -> x.style(b, 21, 0));
        throwing("8 a bad style ahead of the root", 'A', () -> x.style(0, 21, 0));
        throwing("8 no such box ahead of a bad style", 'I', () -> x.style(9, 21, 0));
    }

    private static void styleRanges() {
        int[][] good = {{0, 1, 2, 3}, {0, 1, 2}, {0, 1, 2, 3}, {0, 1, 2}, {-4, -3, -2, -1, 0, 200, 1000, 1100},
            {-1, 0, 200, 1000, 1100}, {-40, 40}, {-40, 40}, {-40, 40}, {-40, 40}, {0, 20}, {0, 20}, {0, 20}, {0, 20},
            {0, 1, 2}, {-9, 9}, {-10, 10}, {1, 4}, {-1000, -200, 200}, {-1000, -200, 200}, {0, 1}};
        int[][] bad = {{-1, 4}, {-1, 3}, {-1, 4}, {-1, 3}, {-5, 201, 999, 1101}, {-2, 201, 999, 1101}, {-41, 41},
            {-41, 41}, {-41, 41}, {-41, 41}, {-1, 21}, {-1, 21}, {-1, 21}, {-1, 21}, {-1, 3}, {-10, 10}, {-11, 11},
            {0, 5}, {-1001, -999, -201, 201}, {-1001, -999, -201, 201}, {-1, 2}};
        FlowBoxes x = new FlowBoxes();
        int b = box(x, 0);
        for (int style = 0; style <= 20; style++) {
            int s = style;
            for (int value : good[style]) throwing("8 " + s + " allows " + value, '-', () -> x.style(b, s, value));
            for (int value : bad[style]) throwing("8 " + s + " allows no " + value, 'A', () -> x.style(b, s, value));
        }
    }

    /** Promise 9. */
    private static void pages() {
        FlowBoxes x = new FlowBoxes();
        int b = box(x, 0);
        due("9 before", x.page(1), 60);
        due("9 of the root", x.width(0), 1);
        due("9 inside", x.width(b), 1);
        due("9 before again", x.page(300), 1);
        due("9 widest", x.width(0), 300);
        throwing("9 zero", 'A', () -> x.page(0));
        throwing("9 too wide", 'A', () -> x.page(301));
        due("9 stays", x.width(0), 300);
        int work = x.work();
        due("9 the same", x.page(300), 300);
        due("9 the same is no change", x.work(), work);
    }
}
