/** What the tests of the promises share. */
abstract class Check {
    static final int DISPLAY = 0, FLOAT = 1, CLEAR = 2, POSITION = 3, WIDTH = 4, HEIGHT = 5, MARGIN_TOP = 6,
            MARGIN_RIGHT = 7, MARGIN_BOTTOM = 8, MARGIN_LEFT = 9, EDGE_TOP = 10, EDGE_RIGHT = 11, EDGE_BOTTOM = 12,
            EDGE_LEFT = 13, CONTEXT = 14, Z = 15, SHIFT = 16, COLUMNS = 17, LEFT = 18, TOP = 19, EVEN = 20;
    static final int AUTO = -1, LEAST = -2, MOST = -3, FIT = -4;

    private static int wrong = 0;
    private static int checked = 0;

    interface Call {
        int go();
    }

    static void due(String what, long got, long want) {
        checked++;
        if (got != want) {
            wrong++;
            System.out.println(what + ": answered " + got + ", due is " + want);
        }
    }

    /** I, A and S stand for the three exceptions, - for none. */
    static void throwing(String what, char want, Call call) {
        char got = '-';
        try {
            call.go();
        } catch (IndexOutOfBoundsException e) {
            got = 'I';
        } catch (IllegalArgumentException e) {
            got = 'A';
        } catch (IllegalStateException e) {
            got = 'S';
        }
        checked++;
        if (got != want) {
            wrong++;
            System.out.println(what + ": threw " + got + ", due is " + want);
        }
    }

    /** The answer, or I, A or S for the exception that came. */
    private static String told(Call call) {
        try {
            return call.go() + " ";
        } catch (IndexOutOfBoundsException e) {
            return "I ";
        } catch (IllegalArgumentException e) {
            return "A ";
        } catch (IllegalStateException e) {
            return "S ";
        }
    }

    /** All that can be asked of all nodes and of the painting, but for the work. */
    static String all(FlowBoxes x) {
        StringBuilder all = new StringBuilder();
        for (int node = 0; node < 60; node++) {
            int n = node;
            all.append("node ").append(n).append(": ").append(told(() -> x.x(n))).append(told(() -> x.y(n)));
            all.append(told(() -> x.width(n))).append(told(() -> x.height(n))).append(told(() -> x.children(n)));
            all.append(told(() -> x.least(n))).append(told(() -> x.most(n))).append(told(() -> x.bars(n)));
            all.append(told(() -> x.lines(n)));
            for (int what = 0; what < 4; what++) {
                int w = what;
                all.append(told(() -> x.fromNothing(n, w)));
            }
            for (int k = 0; k < 100; k++) {
                int place = k / 5;
                int what = k % 5;
                all.append(told(() -> x.line(n, place, what))).append(told(() -> x.wordAt(n, place, what)));
            }
            all.append('\n');
        }
        for (int place = 0; place < x.painted(); place++) all.append(x.paint(place)).append(' ');
        return all.toString();
    }

    static void same(String what, String got, String want) {
        checked++;
        if (!got.equals(want)) {
            wrong++;
            System.out.println(what + ": not the same");
        }
    }

    /** A box as the last child, with styles and their values by turns. */
    static int box(FlowBoxes x, int parent, int... styles) {
        int box = x.box(parent, x.children(parent));
        set(x, box, styles);
        return box;
    }

    static void set(FlowBoxes x, int box, int... styles) {
        for (int k = 0; k + 1 < styles.length; k += 2) x.style(box, styles[k], styles[k + 1]);
    }

    /** A text as the last child, with words of these lengths, without cuts. */
    static int text(FlowBoxes x, int parent, int size, int... lengths) {
        int text = x.text(parent, x.children(parent), size);
        for (int length : lengths) x.word(text, length, 0);
        return text;
    }

    /** Where a box with its edges is, and how large. */
    static void place(String what, FlowBoxes x, int node, int left, int top, int wide, int high) {
        due(what + ": x", x.x(node), left);
        due(what + ": y", x.y(node), top);
        due(what + ": width", x.width(node), wide);
        due(what + ": height", x.height(node), high);
        due(what + ": x from nothing", x.fromNothing(node, 0), left);
        due(what + ": y from nothing", x.fromNothing(node, 1), top);
        due(what + ": width from nothing", x.fromNothing(node, 2), wide);
        due(what + ": height from nothing", x.fromNothing(node, 3), high);
    }

    static void order(String what, FlowBoxes x, int... nodes) {
        due(what + ": painted", x.painted(), nodes.length);
        for (int k = 0; k < nodes.length && k < x.painted(); k++) due(what + ": paint " + k, x.paint(k), nodes[k]);
    }

    static void end(String name) {
        System.out.println(name + ": " + checked + " answers, " + wrong + " wrong");
        if (wrong != 0) System.exit(1);
    }
}
