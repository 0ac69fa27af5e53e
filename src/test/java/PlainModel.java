import java.util.ArrayList;
import java.util.List;

/**
 * The document once more, written as plainly as it reads: everything is laid out each time,
 * the memory is only played for the sake of work(). It is slow, and shares nothing with FlowBoxes.
 */
final class PlainModel {
    static final int OUT = 0, TEXT = 1, SPAN = 2, INLINE = 3, BLOCK = 4, ROW = 5, CELL = 6, FLOATED = 7, ABSOLUTE = 8;

    static final class Node {
        int id;
        Node parent;
        List<Node> kids = new ArrayList<>();
        boolean text;
        int size;
        List<int[]> words = new ArrayList<>();
        int[] set = new int[21];
        int kind;
        boolean table, scrolls;
        int columns;
        boolean changed = true;
        boolean wasLaid;
        long toldWidth, toldHeight;
        long x, y, w, h, known, bars;
        long finalX, finalY, originX, originY;
        List<LineBox> lines = new ArrayList<>();
        List<long[][]> pieces = new ArrayList<>();
    }

    static final class Item {
        Node node;
        int word, piece;
        long offset, wide, ascent, descent;
    }

    static final class LineBox {
        Node box;
        long left, top, wide, high, ascent;
        List<Item> items = new ArrayList<>();
    }

    static final class Floater {
        long left, top, wide, high;
        boolean onLeft;

        long right() { return left + wide; }
        long low() { return top + high; }
    }

    static final class Flow {
        long y;
        List<Long> pending = new ArrayList<>();
        List<Floater> floats = new ArrayList<>();
        List<Node> unheld = new ArrayList<>();
        List<Node> boxes = new ArrayList<>();
        List<LineBox> lines = new ArrayList<>();

        long pendingSum() {
            long up = 0, down = 0;
            for (long m : pending) {
                if (m > 0 && m > up) up = m;
                if (m < 0 && m < down) down = m;
            }
            return up + down;
        }

        void end() {
            y += pendingSum();
            pending.clear();
            for (Node n : unheld) n.y = y;
            unheld.clear();
        }
    }

    final List<Node> all = new ArrayList<>();
    final Node root;
    int page = 60;
    int work, latest;
    private boolean counting;

    PlainModel() {
        root = new Node();
        first(root);
        all.add(root);
        relay();
    }

    private static void first(Node n) {
        n.set[4] = -1;
        n.set[5] = -1;
        n.set[17] = 1;
        n.set[18] = -1000;
        n.set[19] = -1000;
    }

    // ---- changes; the arguments are good ones

    Node at(int id) {
        return id < 0 || id >= all.size() ? null : all.get(id);
    }

    int add(int parent, int place, int size) {
        Node n = new Node();
        first(n);
        n.id = all.size();
        n.parent = at(parent);
        n.text = size > 0;
        n.size = size;
        all.add(n);
        n.parent.kids.add(place, n);
        touch(n.parent);
        relay();
        return n.id;
    }

    int word(int text, int length, int cut) {
        at(text).words.add(new int[] {length, cut});
        touch(at(text));
        relay();
        return at(text).words.size();
    }

    int unword(int text) {
        at(text).words.remove(at(text).words.size() - 1);
        touch(at(text));
        relay();
        return at(text).words.size();
    }

    int remove(int id) {
        Node n = at(id);
        List<Node> gone = new ArrayList<>();
        gather(n, gone);
        n.parent.kids.remove(n);
        for (Node g : gone) all.set(g.id, null);
        touch(n.parent);
        relay();
        return gone.size();
    }

    int style(int id, int style, int value) {
        Node n = at(id);
        int before = n.set[style];
        if (before == value) return before;
        n.set[style] = value;
        touch(n);
        if (style == 0 || style == 1 || style == 3 || style == 14 || style == 17) {
            List<Node> in = new ArrayList<>();
            gather(n, in);
            for (Node i : in) i.changed = true;
        }
        relay();
        return before;
    }

    int page(int width) {
        int before = page;
        if (before != width) {
            page = width;
            relay();
        }
        return before;
    }

    int depth(int id) {
        int d = 0;
        for (Node n = at(id); n.parent != null; n = n.parent) d++;
        return d;
    }

    private static void touch(Node n) {
        for (Node a = n; a != null; a = a.parent) a.changed = true;
    }

    private static void gather(Node n, List<Node> into) {
        into.add(n);
        for (Node k : n.kids) gather(k, into);
    }

    // ---- what nodes are

    private void kinds(Node n) {
        Node p = n.parent;
        n.table = false;
        if (p == null) {
            n.kind = BLOCK;
        } else if (n.text) {
            n.kind = p.table || p.kind == ROW ? OUT : TEXT;
        } else if (p.table) {
            n.kind = ROW;
        } else if (p.kind == ROW) {
            n.kind = CELL;
        } else if (n.set[3] == 2) {
            n.kind = ABSOLUTE;
            n.table = n.set[0] == 3;
        } else if (n.set[1] != 0) {
            n.kind = FLOATED;
            n.table = n.set[0] == 3;
        } else if (n.set[0] == 1) {
            n.kind = SPAN;
        } else if (n.set[0] == 2) {
            n.kind = INLINE;
        } else if (p.kind == SPAN) {
            n.kind = INLINE;
        } else {
            n.kind = BLOCK;
            n.table = n.set[0] == 3;
        }
        n.columns = n.text ? 1 : findColumns(n);
        n.scrolls = findScrolls(n);
        for (Node k : n.kids) kinds(k);
    }

    private static int st(Node n, int style) {
        int atFirst = style == 4 || style == 5 ? -1 : style == 17 ? 1 : style == 18 || style == 19 ? -1000 : 0;
        boolean margin = style >= 6 && style <= 9;
        boolean edge = style >= 10 && style <= 13;
        if (n.kind == ROW || n.kind == CELL) {
            if (margin || style <= 4 || style == 14 || style == 15 || style == 16 || style == 17) return atFirst;
            if (n.kind == ROW && (edge || style == 5)) return atFirst;
        }
        if (n.kind == SPAN) {
            if (margin || edge || style == 4 || style == 5 || style == 2 || style == 17 || style == 14 || style == 15
                    || style == 3) return atFirst;
        }
        return n.set[style];
    }

    private static int findColumns(Node n) {
        if (n.table) return 1;
        for (Node a = n.parent; a != null; a = a.parent) {
            if (a.columns > 1) return 1;
        }
        return st(n, 17);
    }

    private static boolean findScrolls(Node n) {
        if (n.text || st(n, 14) != 2 || n.table || n.columns > 1) return false;
        int around = 0;
        for (Node a = n.parent; a != null; a = a.parent) if (a.scrolls) around++;
        return around <= 1;
    }

    private static boolean context(Node n) {
        if (n.text || n.kind == SPAN || n.kind == ROW) return false;
        return n.parent == null || n.kind == FLOATED || n.kind == ABSOLUTE || n.kind == INLINE || n.kind == CELL
                || n.table || st(n, 14) != 0 || n.columns > 1;
    }

    private static boolean inLines(Node n) {
        return n.kind == TEXT || n.kind == SPAN || n.kind == INLINE;
    }

    private static boolean stack(Node n) {
        return n.parent == null || !n.text && st(n, 3) != 0;
    }

    private static int edgesX(Node n) { return st(n, 11) + st(n, 13); }
    private static int edgesY(Node n) { return st(n, 10) + st(n, 12); }
    private static int rimX(Node n) { return edgesX(n) + st(n, 7) + st(n, 9); }
    private static int rimY(Node n) { return edgesY(n) + st(n, 6) + st(n, 8); }

    // ---- least and most widths

    /** The children of a box as runs (lists of what is in one) and single boxes (lists of one, not in lines). */
    private static List<List<Node>> parts(Node box) {
        List<List<Node>> parts = new ArrayList<>();
        int i = 0;
        while (i < box.kids.size()) {
            List<Node> part = new ArrayList<>();
            if (inLines(box.kids.get(i))) {
                int end = i;
                for (int j = i; j < box.kids.size(); j++) {
                    Node k = box.kids.get(j);
                    if (inLines(k)) end = j;
                    else if (k.kind != FLOATED && k.kind != ABSOLUTE) break;
                }
                for (int j = i; j <= end; j++) part.add(box.kids.get(j));
                i = end + 1;
            } else {
                part.add(box.kids.get(i));
                i++;
            }
            parts.add(part);
        }
        return parts;
    }

    /** What is in a run, in order, spans opened. */
    private static void open(List<Node> run, List<Node> into) {
        for (Node n : run) {
            if (n.kind == SPAN) open(n.kids, into);
            else into.add(n);
        }
    }

    static long least(Node box) {
        if (box.table) return tableWidth(box, false);
        long best = 0;
        for (List<Node> part : parts(box)) {
            List<Node> things = new ArrayList<>();
            open(part, things);
            for (Node t : things) {
                if (t.kind == TEXT) {
                    for (int[] word : t.words) {
                        long wide = word[1] > 0 ? Math.max(word[1] + 1, word[0] - word[1]) : word[0];
                        best = Math.max(best, wide);
                    }
                } else if (t.kind != ABSOLUTE) {
                    best = Math.max(best, outerLeast(t));
                }
            }
        }
        long n = box.columns;
        return n * best + n - 1;
    }

    static long most(Node box) {
        if (box.table) return tableWidth(box, true);
        long best = 0;
        for (List<Node> part : parts(box)) {
            List<Node> things = new ArrayList<>();
            open(part, things);
            List<Long> wides = new ArrayList<>();
            for (Node t : things) {
                if (t.kind == TEXT) for (int[] word : t.words) wides.add((long) word[0]);
                else if (t.kind != ABSOLUTE) wides.add(outerMost(t));
            }
            long sum = 0;
            for (long wide : wides) sum += wide;
            if (wides.size() > 1) sum += wides.size() - 1;
            best = Math.max(best, sum);
        }
        long n = box.columns;
        return n * best + n - 1;
    }

    private static long outerLeast(Node n) {
        long v = st(n, 4);
        long in = v >= 0 && v <= 200 ? v : v == -3 ? most(n) : least(n);
        return Math.max(0, in + rimX(n));
    }

    private static long outerMost(Node n) {
        long v = st(n, 4);
        long in = v >= 0 && v <= 200 ? v : v == -2 ? least(n) : most(n);
        return Math.max(0, in + rimX(n));
    }

    private static List<List<Node>> rows(Node table) {
        List<List<Node>> rows = new ArrayList<>();
        for (Node r : table.kids) {
            if (r.text) continue;
            List<Node> cells = new ArrayList<>();
            for (Node c : r.kids) if (!c.text) cells.add(c);
            rows.add(cells);
        }
        return rows;
    }

    private static List<Long> columnWidths(Node table, boolean mostly) {
        List<Long> wides = new ArrayList<>();
        for (List<Node> row : rows(table)) {
            for (int c = 0; c < row.size(); c++) {
                long wide = mostly ? outerMost(row.get(c)) : outerLeast(row.get(c));
                if (c < wides.size()) wides.set(c, Math.max(wides.get(c), wide));
                else wides.add(wide);
            }
        }
        return wides;
    }

    private static long tableWidth(Node table, boolean mostly) {
        List<Long> wides = columnWidths(table, mostly);
        if (wides.isEmpty()) return 0;
        long sum = 0, greatest = 0;
        for (long w : wides) {
            sum += w;
            greatest = Math.max(greatest, w);
        }
        return (st(table, 20) == 1 ? greatest * wides.size() : sum) + wides.size() - 1;
    }

    // ---- widths and heights

    private static long widthOf(Node n, long w, long left) {
        long v = st(n, 4);
        if (v >= 1000) return w * (v - 1000) / 100;
        if (v >= 0) return v;
        if (v == -2) return least(n);
        if (v == -3) return most(n);
        boolean fit = v == -4 || n.kind == FLOATED || n.kind == INLINE || n.kind == ABSOLUTE || n.table;
        if (!fit) return Math.max(0, left);
        long wide = most(n);
        if (wide > left) wide = left;
        if (wide < least(n)) wide = least(n);
        return wide;
    }

    /** -1 is unknown. */
    private static long knownOf(Node n, Node around) {
        long v = st(n, 5);
        if (n.parent == null) return -1;
        if (v >= 0 && v <= 200) return v;
        if (v < 1000 || n.kind == CELL) return -1;
        Node a = around;
        while (a.kind == SPAN) a = a.parent;
        return a.known < 0 ? -1 : a.known * (v - 1000) / 100;
    }

    // ---- layout

    private void relay() {
        kinds(root);
        counting = true;
        latest = 0;
        context(root, page, -1);
        List<Node> order = new ArrayList<>();
        gather(root, order);
        for (Node n : order) {
            if (n.kind == ABSOLUTE) {
                Node p = holder(n);
                context(n, widthOf(n, p.w, p.w - rimX(n)), knownOf(n, p));
            }
        }
        work += latest;
        places(root);
    }

    private static Node holder(Node n) {
        Node p = n.parent;
        while (!stack(p)) p = p.parent;
        return p;
    }

    /** Lays a context out: its h is its height then. */
    private void context(Node n, long width, long known) {
        n.w = width;
        n.known = known;
        n.bars = 0;
        if (n.table) {
            table(n);
            return;
        }
        boolean before = counting;
        if (!n.changed && n.wasLaid && n.toldWidth == width && n.toldHeight == known) counting = false;
        if (n.scrolls) {
            scrolling(n);
        } else if (n.columns > 1) {
            columned(n);
        } else {
            Flow f = flow(n, width);
            n.h = known >= 0 ? known : heightOf(f);
        }
        if (counting) {
            n.changed = false;
            n.wasLaid = true;
            n.toldWidth = width;
            n.toldHeight = known;
        }
        counting = before;
    }

    private static long heightOf(Flow f) {
        long h = Math.max(0, f.y);
        for (Floater o : f.floats) h = Math.max(h, o.low());
        return h;
    }

    private Flow flow(Node n, long width) {
        if (counting) latest++;
        Flow f = new Flow();
        container(n, f, 0, width);
        f.end();
        return f;
    }

    private void scrolling(Node n) {
        boolean up = false, flat = false;
        long content;
        while (true) {
            Flow f = flow(n, Math.max(0, n.w - (up ? 2 : 0)));
            content = heightOf(f);
            boolean got = false;
            if (!up && n.known >= 0 && content > n.known - (flat ? 2 : 0)) {
                up = true;
                got = true;
            }
            if (!flat && reach(f) > n.w - (up ? 2 : 0)) {
                flat = true;
                got = true;
            }
            if (!got) break;
        }
        n.bars = (up ? 1 : 0) + (flat ? 2 : 0);
        n.h = n.known >= 0 ? n.known : content + (flat ? 2 : 0);
    }

    private static long reach(Flow f) {
        long r = Long.MIN_VALUE;
        for (LineBox l : f.lines) {
            r = Math.max(r, l.left + l.wide);
            for (Item i : l.items) {
                if (i.node.kind == INLINE) r = Math.max(r, l.left + i.offset + st(i.node, 9) + edgesX(i.node) + i.node.w);
            }
        }
        for (Floater o : f.floats) r = Math.max(r, o.right());
        for (Node b : f.boxes) if (b.kind == BLOCK) r = Math.max(r, b.x + edgesX(b) + b.w);
        return r;
    }

    private void container(Node box, Flow f, long x, long w) {
        box.lines = new ArrayList<>();
        for (List<Node> part : parts(box)) {
            Node n = part.get(0);
            if (inLines(n)) {
                List<Node> things = new ArrayList<>();
                open(part, things);
                boolean any = false;
                for (Node t : things) any |= t.kind == INLINE || t.kind == TEXT && !t.words.isEmpty();
                if (any) {
                    f.end();
                    new Run(box, f, x, w).go(things);
                } else {
                    for (Node t : things) if (t.kind != TEXT) outside(box, t, f, x, w);
                }
            } else {
                outside(box, n, f, x, w);
            }
        }
    }

    private void outside(Node box, Node n, Flow f, long x, long w) {
        if (n.kind == FLOATED) {
            floatIn(box, n, f, x, w, f.y + f.pendingSum());
        } else if (n.kind == ABSOLUTE) {
            n.x = x;
            n.y = f.y + f.pendingSum();
            f.boxes.add(n);
        } else if (context(n)) {
            contextBlock(box, n, f, x, w);
        } else {
            plainBlock(box, n, f, x, w);
        }
    }

    private static void clear(Node n, Flow f) {
        long how = st(n, 2);
        if (how == 0) return;
        Long c = null;
        for (Floater o : f.floats) {
            if (how == 3 || how == 1 && o.onLeft || how == 2 && !o.onLeft) c = c == null ? o.low() : Math.max(c, o.low());
        }
        long to = c == null ? 0 : c;
        if (to > f.y + f.pendingSum()) {
            f.y = to;
            f.pending.clear();
        }
    }

    private void plainBlock(Node box, Node n, Flow f, long x, long w) {
        f.boxes.add(n);
        f.pending.add((long) st(n, 6));
        clear(n, f);
        n.known = knownOf(n, box);
        n.w = widthOf(n, w, w - rimX(n));
        n.x = x + st(n, 9);
        f.unheld.add(n);
        if (st(n, 10) > 0) f.end();
        f.y += st(n, 10);
        container(n, f, n.x + st(n, 13), n.w);
        if (f.unheld.contains(n)) {
            if (n.known > 0 || st(n, 12) > 0) {
                f.end();
                n.h = Math.max(n.known, 0);
                f.y += st(n, 12) + n.h;
            } else {
                n.y = f.y + f.pendingSum();
                n.h = 0;
                f.unheld.remove(n);
            }
        } else if (n.known >= 0) {
            f.pending.clear();
            n.h = n.known;
            f.y = n.y + edgesY(n) + n.h;
        } else if (st(n, 12) > 0) {
            f.end();
            n.h = Math.max(0, f.y - n.y - st(n, 10));
            f.y = n.y + edgesY(n) + n.h;
        } else {
            n.h = Math.max(0, f.y - n.y - st(n, 10));
        }
        f.pending.add((long) st(n, 8));
    }

    private void contextBlock(Node box, Node n, Flow f, long x, long w) {
        f.boxes.add(n);
        f.pending.add((long) st(n, 6));
        clear(n, f);
        f.end();
        long wanted = st(n, 4) >= 1000 ? Math.max(0, w * (st(n, 4) - 1000) / 100 + rimX(n)) : outerLeast(n);
        long[] band = lowered(f, x, w, f.y, 0, wanted);
        n.y = band[0];
        n.x = band[1] + st(n, 9);
        context(n, widthOf(n, w, band[2] - band[1] - rimX(n)), knownOf(n, box));
        f.y = n.y + edgesY(n) + n.h;
        f.pending.add((long) st(n, 8));
    }

    /** The left and right end of the band, and 1 if a float reaches in. */
    private static long[] band(Flow f, long x, long w, long a, long b) {
        long left = x, right = x + w, any = 0;
        long end = Math.max(b, a + 1);
        for (Floater o : f.floats) {
            if (o.wide <= 0 || o.high <= 0) continue;
            if (o.top >= end || o.low() <= a) continue;
            boolean within = w == 0 ? o.left < x && o.right() > x
                    : Math.min(o.right(), x + w) - Math.max(o.left, x) > 0;
            if (!within) continue;
            any = 1;
            if (o.onLeft) left = Math.max(left, o.right());
            else right = Math.min(right, o.left);
        }
        return new long[] {left, right, any};
    }

    /** The height, and the left and right end of the band there. */
    private static long[] lowered(Flow f, long x, long w, long from, long high, long wanted) {
        long y = from;
        while (true) {
            long[] band = band(f, x, w, y, y + high);
            if (band[1] - band[0] >= wanted || band[2] == 0) return new long[] {y, band[0], band[1]};
            y = below(f, y);
        }
    }

    private static long below(Flow f, long y) {
        long next = Long.MAX_VALUE;
        for (Floater o : f.floats) if (o.low() > y) next = Math.min(next, o.low());
        return next;
    }

    private void floatIn(Node box, Node n, Flow f, long x, long w, long from) {
        context(n, widthOf(n, w, w - rimX(n)), knownOf(n, box));
        Floater o = new Floater();
        o.wide = n.w + rimX(n);
        o.high = n.h + rimY(n);
        o.onLeft = n.set[1] == 1;
        long start = f.floats.isEmpty() ? from : Math.max(from, f.floats.get(f.floats.size() - 1).top);
        long[] band = lowered(f, x, w, start, o.high, o.wide);
        o.top = band[0];
        o.left = o.onLeft ? band[1] : band[2] - o.wide;
        f.floats.add(o);
        n.x = o.left + st(n, 9);
        n.y = o.top + st(n, 6);
        f.boxes.add(n);
    }

    /** One run being put in lines. */
    private final class Run {
        final Node box;
        final Flow f;
        final long x, w;
        LineBox line = new LineBox();
        long[] room;
        List<Node> late = new ArrayList<>();

        Run(Node box, Flow f, long x, long w) {
            this.box = box;
            this.f = f;
            this.x = x;
            this.w = w;
        }

        long filled() {
            if (line.items.isEmpty()) return 0;
            Item last = line.items.get(line.items.size() - 1);
            return last.offset + last.wide;
        }

        long nextOffset() {
            return line.items.isEmpty() ? 0 : filled() + 1;
        }

        void freshRoom() {
            if (line.items.isEmpty()) room = band(f, x, w, f.y, f.y);
        }

        void go(List<Node> things) {
            for (Node n : things) {
                freshRoom();
                if (n.kind == FLOATED) {
                    meet(n);
                } else if (n.kind == ABSOLUTE) {
                    n.x = room[0] + nextOffset();
                    n.y = f.y;
                    f.boxes.add(n);
                } else if (n.kind == TEXT) {
                    n.pieces = new ArrayList<>();
                    for (int k = 0; k < n.words.size(); k++) {
                        n.pieces.add(new long[2][]);
                        Item i = new Item();
                        i.node = n;
                        i.word = k;
                        i.wide = n.words.get(k)[0];
                        i.ascent = n.size * 3 / 4;
                        i.descent = n.size - i.ascent;
                        put(i, n.words.get(k)[1]);
                    }
                } else {
                    context(n, widthOf(n, w, w - rimX(n)), knownOf(n, box));
                    Item i = new Item();
                    i.node = n;
                    i.wide = n.w + rimX(n);
                    i.ascent = n.h + rimY(n);
                    put(i, 0);
                }
            }
            end();
        }

        void meet(Node n) {
            long outer = widthOf(n, w, w - rimX(n)) + rimX(n);
            if (line.items.isEmpty() || outer <= room[1] - room[0] - filled()) {
                floatIn(box, n, f, x, w, f.y);
                room = band(f, x, w, f.y, f.y);
            } else {
                late.add(n);
            }
        }

        boolean fits(long wide) {
            return nextOffset() + wide <= room[1] - room[0];
        }

        void put(Item i, long cut) {
            freshRoom();
            if (fits(i.wide)) {
                stand(i);
            } else if (cut > 0 && fits(cut + 1)) {
                Item rest = new Item();
                rest.node = i.node;
                rest.word = i.word;
                rest.piece = 1;
                rest.wide = i.wide - cut;
                rest.ascent = i.ascent;
                rest.descent = i.descent;
                i.wide = cut + 1;
                stand(i);
                end();
                put(rest, 0);
            } else if (!line.items.isEmpty()) {
                end();
                put(i, cut);
            } else if (room[2] == 1) {
                f.y = below(f, f.y);
                put(i, cut);
            } else {
                stand(i);
            }
        }

        void stand(Item i) {
            i.offset = nextOffset();
            long shift = i.node.kind == INLINE ? st(i.node, 16) : 0;
            for (Node a = i.node.parent; a.kind == SPAN; a = a.parent) shift += st(a, 16);
            i.ascent += shift;
            i.descent -= shift;
            line.items.add(i);
        }

        void end() {
            if (line.items.isEmpty()) return;
            long up = Long.MIN_VALUE, down = Long.MIN_VALUE;
            for (Item i : line.items) {
                up = Math.max(up, i.ascent);
                down = Math.max(down, i.descent);
            }
            line.box = box;
            line.left = room[0];
            line.top = f.y;
            line.wide = filled();
            line.ascent = up;
            line.high = Math.max(0, up + down);
            box.lines.add(line);
            f.lines.add(line);
            standAt(line);
            f.y += line.high;
            line = new LineBox();
            List<Node> floats = late;
            late = new ArrayList<>();
            for (Node n : floats) floatIn(box, n, f, x, w, f.y);
        }
    }

    private static void standAt(LineBox line) {
        long base = line.top + line.ascent;
        for (Item i : line.items) {
            long left = line.left + i.offset;
            long top = base - i.ascent;
            if (i.node.kind == INLINE) {
                i.node.x = left + st(i.node, 9);
                i.node.y = top + st(i.node, 6);
            } else {
                i.node.pieces.get(i.word)[i.piece] = new long[] {left, top, i.wide};
            }
        }
    }

    // ---- tables

    private void table(Node t) {
        List<Long> least = columnWidths(t, false);
        List<Long> most = columnWidths(t, true);
        int n = least.size();
        long r = Math.max(0, t.w - (n - 1));
        long[] wide = new long[n];
        long sumLeast = 0, sumMost = 0;
        for (int c = 0; c < n; c++) {
            sumLeast += least.get(c);
            sumMost += most.get(c);
        }
        for (int c = 0; c < n; c++) {
            if (st(t, 20) == 1) wide[c] = r / n;
            else if (sumMost <= r) wide[c] = most.get(c);
            else wide[c] = least.get(c);
        }
        if (st(t, 20) == 0 && sumMost > r && r > sumLeast) {
            long rest = r - sumLeast, over = rest;
            for (int c = 0; c < n; c++) {
                long share = rest * (most.get(c) - least.get(c)) / (sumMost - sumLeast);
                wide[c] += share;
                over -= share;
            }
            for (int c = 0; c < n && over > 0; c++) {
                if (most.get(c) > least.get(c)) {
                    wide[c]++;
                    over--;
                }
            }
        }
        long y = 0;
        boolean first = true;
        for (Node row : t.kids) {
            if (row.text) continue;
            if (!first) y++;
            first = false;
            long high = 0, x = 0;
            int c = 0;
            for (Node cell : row.kids) {
                if (cell.text) continue;
                context(cell, Math.max(0, wide[c] - edgesX(cell)), knownOf(cell, row));
                cell.x = x;
                cell.y = y;
                x += wide[c] + 1;
                c++;
                high = Math.max(high, cell.h + edgesY(cell));
            }
            for (Node cell : row.kids) if (!cell.text) cell.h = high - edgesY(cell);
            row.x = 0;
            row.y = y;
            row.w = t.w;
            row.h = high;
            row.known = -1;
            y += high;
        }
        t.h = Math.max(y, t.known);
    }

    // ---- columns

    private void columned(Node n) {
        long cols = n.columns;
        long one = Math.max(1, Math.floorDiv(n.w - (cols - 1), cols));
        Flow f = flow(n, one);
        long height = heightOf(f);
        List<long[]> whole = new ArrayList<>();
        for (LineBox l : f.lines) {
            whole.add(new long[] {l.top, l.top + l.high});
            for (Item i : l.items) {
                if (i.node.kind == INLINE) whole.add(new long[] {i.node.y, i.node.y + i.node.h + edgesY(i.node)});
            }
        }
        for (Floater o : f.floats) whole.add(new long[] {o.top, o.low()});
        for (Node b : f.boxes) {
            if (b.kind == BLOCK && context(b)) whole.add(new long[] {b.y, b.y + b.h + edgesY(b)});
        }
        List<Long> breaks = new ArrayList<>();
        breaks.add(0L);
        List<Long> ends = new ArrayList<>();
        for (long[] i : whole) {
            ends.add(i[0]);
            ends.add(i[1]);
        }
        for (long p : ends) {
            boolean good = p > 0 && p < height;
            for (long[] i : whole) if (i[0] < p && i[1] > p) good = false;
            if (good) breaks.add(p);
        }
        breaks.add(height);
        long h = n.known;
        if (h < 0) {
            h = 0;
            if (height > 0) {
                h = 1;
                while (begins(breaks, height, h).size() > cols) h++;
            }
        }
        List<Long> begins = begins(breaks, height, h);
        n.h = h;
        for (LineBox l : f.lines) {
            int c = columnOf(begins, l.top);
            l.left += c * (one + 1);
            l.top -= begins.get(c);
            standAt(l);
        }
        for (Node b : f.boxes) {
            int c = columnOf(begins, b.y);
            b.x += c * (one + 1);
            b.y -= begins.get(c);
        }
    }

    private static int columnOf(List<Long> begins, long top) {
        int c = 0;
        for (int i = 0; i < begins.size(); i++) if (begins.get(i) <= top) c = i;
        return c;
    }

    private static List<Long> begins(List<Long> breaks, long height, long h) {
        List<Long> begins = new ArrayList<>();
        long s = 0;
        begins.add(0L);
        while (s < height) {
            long within = -1, least = Long.MAX_VALUE;
            for (long b : breaks) {
                if (b > s && b <= s + h) within = Math.max(within, b);
                if (b > s) least = Math.min(least, b);
            }
            s = within > 0 ? within : least;
            if (s < height) begins.add(s);
        }
        return begins;
    }

    // ---- places from the root's

    /** Origins: where the places of what is in a node's flow are counted from. */
    private void places(Node n) {
        Node p = n.parent;
        if (p == null) {
            n.finalX = n.finalY = n.originX = n.originY = 0;
        } else if (n.kind == ABSOLUTE) {
            Node at = holder(n);
            n.finalX = st(n, 9) + (n.set[18] == -1000 ? p.originX + n.x : at.finalX + st(at, 13) + n.set[18]);
            n.finalY = st(n, 6) + (n.set[19] == -1000 ? p.originY + n.y : at.finalY + st(at, 10) + n.set[19]);
        } else {
            long dx = 0, dy = 0;
            if (!n.text && st(n, 3) == 1) {
                dx = n.set[18] == -1000 ? 0 : n.set[18];
                dy = n.set[19] == -1000 ? 0 : n.set[19];
            }
            n.finalX = p.originX + n.x + dx;
            n.finalY = p.originY + n.y + dy;
            n.originX = p.originX + dx;
            n.originY = p.originY + dy;
        }
        if (context(n)) {
            n.originX = n.finalX + st(n, 13);
            n.originY = n.finalY + st(n, 10);
        }
        for (Node k : n.kids) places(k);
    }

    // ---- painting and hits

    List<Node> painting() {
        List<Node> order = new ArrayList<>();
        paintStack(root, order);
        return order;
    }

    private static void stacksIn(Node n, List<Node> into) {
        for (Node k : n.kids) {
            if (stack(k)) into.add(k);
            else stacksIn(k, into);
        }
    }

    private static void paintStack(Node s, List<Node> order) {
        List<Node> stacks = new ArrayList<>();
        stacksIn(s, stacks);
        stacks.sort((a, b) -> Integer.compare(st(a, 15), st(b, 15)));
        order.add(s);
        for (Node t : stacks) if (st(t, 15) < 0) paintStack(t, order);
        paintIn(s, order);
        for (Node t : stacks) if (st(t, 15) >= 0) paintStack(t, order);
    }

    private static void own(Node n, List<Node> into) {
        for (Node k : n.kids) {
            if (stack(k)) continue;
            into.add(k);
            if (k.kind != FLOATED && k.kind != INLINE) own(k, into);
        }
    }

    private static void paintIn(Node n, List<Node> order) {
        List<Node> own = new ArrayList<>();
        own(n, own);
        for (Node k : own) if (k.kind == BLOCK || k.kind == ROW || k.kind == CELL) order.add(k);
        for (Node k : own) {
            if (k.kind == FLOATED) {
                order.add(k);
                paintIn(k, order);
            }
        }
        for (Node k : own) {
            if (k.kind == TEXT || k.kind == SPAN) order.add(k);
            if (k.kind == INLINE) {
                order.add(k);
                paintIn(k, order);
            }
        }
    }

    long hit(long x, long y) {
        long found = -1;
        for (Node n : painting()) {
            if (n.kind == SPAN) continue;
            if (n.text) {
                for (int k = 0; k < n.words.size(); k++) {
                    for (long[] piece : n.pieces.get(k)) {
                        if (piece != null && within(x, n.parent.originX + piece[0], piece[2])
                                && within(y, n.parent.originY + piece[1], n.size)) found = n.id;
                    }
                }
            } else if (within(x, n.finalX, n.w + edgesX(n)) && within(y, n.finalY, n.h + edgesY(n))) {
                found = n.id;
            }
        }
        return found;
    }

    private static boolean within(long p, long from, long length) {
        return p >= from && p < from + length;
    }

    // ---- answers, for good arguments; STATE stands for the state's exception

    static final long STATE = Long.MIN_VALUE;

    long side(int id, int what) {
        Node n = at(id);
        if (n.kind == OUT || n.kind == SPAN || n.text && n.words.isEmpty()) return STATE;
        if (n.text) return what == 3 ? n.size : piece(n, 0, what);
        if (what == 0) return n.finalX;
        if (what == 1) return n.finalY;
        return what == 2 ? n.w + edgesX(n) : n.h + edgesY(n);
    }

    long piece(Node n, int word, int what) {
        long[] piece = n.pieces.get(word)[0];
        return piece[what] + (what == 0 ? n.parent.originX : what == 1 ? n.parent.originY : 0);
    }

    long measure(int id, boolean mostly) {
        Node n = at(id);
        if (n.kind == SPAN || n.kind == ROW) return STATE;
        return mostly ? most(n) : least(n);
    }

    long bars(int id) {
        return at(id).kind == SPAN ? STATE : at(id).scrolls ? at(id).bars : 0;
    }

    boolean holdsLines(int id) {
        Node n = at(id);
        return n.kind != SPAN && n.kind != ROW && !n.table;
    }

    long line(int id, int line, int what) {
        Node n = at(id);
        LineBox l = n.lines.get(line);
        switch (what) {
            case 0: return n.originX + l.left;
            case 1: return n.originY + l.top;
            case 2: return l.wide;
            case 3: return l.high;
            default: return l.ascent;
        }
    }
}
