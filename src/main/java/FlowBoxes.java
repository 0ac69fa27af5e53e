/**
 * A layout engine: a tree of boxes and texts, laid out from the root on, with a memory
 * by which a change lays out anew only the contexts that it can reach.
 */
public final class FlowBoxes {
    private static final int NODES = 60;
    private static final int DEEPEST = 20;
    private static final int WORDS = 20;
    private static final int LONGEST = 30;
    private static final int TALLEST = 20;
    private static final int WIDEST_PAGE = 300;
    private static final int FIRST_PAGE = 60;

    private static final int DISPLAY = 0;
    private static final int FLOAT = 1;
    private static final int CLEAR = 2;
    private static final int POSITION = 3;
    private static final int WIDTH = 4;
    private static final int HEIGHT = 5;
    private static final int MARGIN_TOP = 6;
    private static final int MARGIN_RIGHT = 7;
    private static final int MARGIN_BOTTOM = 8;
    private static final int MARGIN_LEFT = 9;
    private static final int EDGE_TOP = 10;
    private static final int EDGE_RIGHT = 11;
    private static final int EDGE_BOTTOM = 12;
    private static final int EDGE_LEFT = 13;
    private static final int CONTEXT = 14;
    private static final int Z = 15;
    private static final int SHIFT = 16;
    private static final int COLUMNS = 17;
    private static final int LEFT = 18;
    private static final int TOP = 19;
    private static final int EVEN = 20;
    private static final int STYLES = 21;

    private static final int AUTO = -1;
    private static final int BY_LEAST = -2;
    private static final int BY_MOST = -3;
    private static final int BY_FIT = -4;
    private static final int SO_MUCH = 200;
    private static final int PERCENT = 1000;
    private static final int NO_OFFSET = -1000;
    private static final int LOWEST_Z = -9;
    private static final int HIGHEST_Z = 9;

    private static final int UNKNOWN = -1;
    private static final int BAR = 2;
    private static final int UPRIGHT = 1;
    private static final int FLAT = 2;
    /** Far above what one thing can need: it goes below every float twice at most. */
    private static final int TRIES = 1000;
    /** Further to the left than anything can be. */
    private static final int NOWHERE = -1000000;

    private final Node[] nodes;
    private final Node root;
    private final Layout kept;
    private final Layout fresh;
    private final Painter painter;
    private int made;
    private int pageWidth;
    private int turn;
    private int workDone;
    private int latestWork;

    public FlowBoxes() {
        Node top = new Node(0, null, 0);
        Strip strip = new Strip();
        Node.assignRoles(top);
        nodes = new Node[NODES];
        nodes[0] = top;
        root = top;
        made = 1;
        pageWidth = FIRST_PAGE;
        kept = new Layout(false, strip);
        fresh = new Layout(true, strip);
        painter = new Painter();
        latestWork = kept.layAll(top, FIRST_PAGE, 0);
        workDone = latestWork;
        painter.arrange(top);
    }

    // ---- the tree

    public int box(int parent, int place) throws IndexOutOfBoundsException, IllegalStateException {
        Node around = boxAt(parent);
        if (around == null || place < 0 || place > around.countChildren()) {
            throw new IndexOutOfBoundsException();
        }
        if (!hasRoom(around)) {
            throw new IllegalStateException();
        }
        int number = insertNode(around, place, 0);
        layAgain();
        return number;
    }

    public int text(int parent, int place, int size)
            throws IndexOutOfBoundsException, IllegalArgumentException, IllegalStateException {
        Node around = boxAt(parent);
        if (around == null || place < 0 || place > around.countChildren()) {
            throw new IndexOutOfBoundsException();
        }
        if (size < 1 || size > TALLEST) {
            throw new IllegalArgumentException();
        }
        if (!hasRoom(around)) {
            throw new IllegalStateException();
        }
        int number = insertNode(around, place, size);
        layAgain();
        return number;
    }

    public int word(int text, int length, int cut)
            throws IndexOutOfBoundsException, IllegalArgumentException, IllegalStateException {
        Node node = textAt(text);
        if (node == null) {
            throw new IndexOutOfBoundsException();
        }
        if (length < 1 || length > LONGEST || cut < 0 || cut >= length) {
            throw new IllegalArgumentException();
        }
        if (node.wordCount >= WORDS) {
            throw new IllegalStateException();
        }
        node.lengths[node.wordCount] = length;
        node.cuts[node.wordCount] = cut;
        node.wordCount++;
        noteChange(node);
        layAgain();
        return node.wordCount;
    }

    public int unword(int text) throws IndexOutOfBoundsException, IllegalStateException {
        Node node = textAt(text);
        if (node == null) {
            throw new IndexOutOfBoundsException();
        }
        if (node.wordCount == 0) {
            throw new IllegalStateException();
        }
        node.wordCount--;
        noteChange(node);
        layAgain();
        return node.wordCount;
    }

    public int remove(int node) throws IndexOutOfBoundsException, IllegalStateException {
        Node gone = nodeAt(node);
        if (gone == null) {
            throw new IndexOutOfBoundsException();
        }
        Node around = gone.parent;
        if (around == null) {
            throw new IllegalStateException();
        }
        int count = 0;
        for (Node at = gone; at != null; at = Node.onward(at, gone, true)) {
            nodes[at.number] = null;
            count++;
        }
        around.takeOut(gone);
        noteChange(around);
        layAgain();
        return count;
    }

    public int children(int box) throws IndexOutOfBoundsException {
        Node node = boxAt(box);
        if (node == null) {
            throw new IndexOutOfBoundsException();
        }
        return node.countChildren();
    }

    public int style(int box, int style, int value)
            throws IndexOutOfBoundsException, IllegalArgumentException, IllegalStateException {
        Node node = boxAt(box);
        if (node == null) {
            throw new IndexOutOfBoundsException();
        }
        if (style < 0 || style >= STYLES || !allows(style, value)) {
            throw new IllegalArgumentException();
        }
        if (node.parent == null) {
            throw new IllegalStateException();
        }
        int before = node.styles[style];
        if (before != value) {
            node.styles[style] = value;
            noteChange(node);
            if (reachesInside(style)) {
                noteChangeInside(node);
            }
            layAgain();
        }
        return before;
    }

    public int page(int width) throws IllegalArgumentException {
        if (width < 1 || width > WIDEST_PAGE) {
            throw new IllegalArgumentException();
        }
        int before = pageWidth;
        if (before != width) {
            pageWidth = width;
            layAgain();
        }
        return before;
    }

    // ---- places and sizes

    public int x(int node) throws IndexOutOfBoundsException, IllegalStateException {
        return (int) sideOf(placedAt(node), 0, kept);
    }

    public int y(int node) throws IndexOutOfBoundsException, IllegalStateException {
        return (int) sideOf(placedAt(node), 1, kept);
    }

    public int width(int node) throws IndexOutOfBoundsException, IllegalStateException {
        return (int) sideOf(placedAt(node), 2, kept);
    }

    public int height(int node) throws IndexOutOfBoundsException, IllegalStateException {
        return (int) sideOf(placedAt(node), 3, kept);
    }

    public int fromNothing(int node, int what)
            throws IndexOutOfBoundsException, IllegalArgumentException, IllegalStateException {
        if (nodeAt(node) == null) {
            throw new IndexOutOfBoundsException();
        }
        if (what < 0 || what > 3) {
            throw new IllegalArgumentException();
        }
        Node placed = placedAt(node);
        fresh.forgetAll(root);
        fresh.layAll(root, pageWidth, turn);
        return (int) sideOf(placed, what, fresh);
    }

    public int least(int box) throws IndexOutOfBoundsException, IllegalStateException {
        return Measures.leastOf(measuredAt(box));
    }

    public int most(int box) throws IndexOutOfBoundsException, IllegalStateException {
        return Measures.mostOf(measuredAt(box));
    }

    public int bars(int box) throws IndexOutOfBoundsException, IllegalStateException {
        Node node = boxAt(box);
        if (node == null) {
            throw new IndexOutOfBoundsException();
        }
        if (node.kind == Kind.OUT || node.kind == Kind.SPAN) {
            throw new IllegalStateException();
        }
        return node.scrolls ? node.kept.bars : 0;
    }

    // ---- lines and words

    public int lines(int box) throws IndexOutOfBoundsException, IllegalStateException {
        Node node = boxAt(box);
        if (node == null) {
            throw new IndexOutOfBoundsException();
        }
        if (!node.holdsLines()) {
            throw new IllegalStateException();
        }
        int count = 0;
        for (Line at = node.kept.firstLine; at != null; at = at.next) {
            count++;
        }
        return count;
    }

    public int line(int box, int line, int what)
            throws IndexOutOfBoundsException, IllegalArgumentException, IllegalStateException {
        Node node = boxAt(box);
        if (node == null) {
            throw new IndexOutOfBoundsException();
        }
        boolean badWhat = what < 0 || what > 4;
        if (!node.holdsLines()) {
            // That it has no lines goes ahead of the line's number, but not ahead of what.
            if (badWhat) {
                throw new IllegalArgumentException();
            }
            throw new IllegalStateException();
        }
        Line found = lineAt(node, line);
        if (found == null) {
            throw new IndexOutOfBoundsException();
        }
        if (badWhat) {
            throw new IllegalArgumentException();
        }
        switch (what) {
            case 0: return (int) (node.kept.baseX + found.left);
            case 1: return (int) (node.kept.baseY + found.top);
            case 2: return found.filled;
            case 3: return found.high;
            default: return found.ascent;
        }
    }

    public int wordAt(int text, int word, int what)
            throws IndexOutOfBoundsException, IllegalArgumentException, IllegalStateException {
        Node node = textAt(text);
        if (node == null || word < 0 || word >= node.wordCount) {
            throw new IndexOutOfBoundsException();
        }
        if (what < 0 || what > 2) {
            throw new IllegalArgumentException();
        }
        if (node.kind == Kind.OUT) {
            throw new IllegalStateException();
        }
        return (int) pieceSide(node, 2 * word, what, kept);
    }

    // ---- painting, hits, work

    public int painted() {
        return painter.count;
    }

    public int paint(int place) throws IndexOutOfBoundsException {
        Node node = painter.at(place);
        if (node == null) {
            throw new IndexOutOfBoundsException();
        }
        return node.number;
    }

    public int hit(int x, int y) {
        for (int place = painter.count - 1; place >= 0; place--) {
            Node node = painter.at(place);
            if (node != null && isHit(node, x, y)) {
                return node.number;
            }
        }
        return -1;
    }

    public int work() {
        return workDone;
    }

    public int latest() {
        return latestWork;
    }

    // ---- helpers of the face

    private Node nodeAt(int number) {
        return number < 0 || number >= NODES ? null : nodes[number];
    }

    private Node boxAt(int number) {
        Node node = nodeAt(number);
        return node == null || node.isText() ? null : node;
    }

    private Node textAt(int number) {
        Node node = nodeAt(number);
        return node == null || !node.isText() ? null : node;
    }

    private Node placedAt(int number) {
        Node node = nodeAt(number);
        if (node == null) {
            throw new IndexOutOfBoundsException();
        }
        boolean wordless = node.isText() && node.wordCount == 0;
        if (node.kind == Kind.OUT || node.kind == Kind.SPAN || wordless) {
            throw new IllegalStateException();
        }
        return node;
    }

    private Node measuredAt(int number) {
        Node node = boxAt(number);
        if (node == null) {
            throw new IndexOutOfBoundsException();
        }
        if (node.kind == Kind.OUT || node.kind == Kind.SPAN || node.kind == Kind.ROW) {
            throw new IllegalStateException();
        }
        return node;
    }

    private static Line lineAt(Node box, int number) {
        int left = number;
        if (left < 0) {
            return null;
        }
        Line at = box.kept.firstLine;
        while (at != null && left > 0) {
            at = at.next;
            left--;
        }
        return at;
    }

    private boolean hasRoom(Node around) {
        return made < NODES && around.depth < DEEPEST;
    }

    private int insertNode(Node around, int place, int size) {
        int number = made;
        if (number < 0 || number >= NODES) {
            return -1;
        }
        Node node = new Node(number, around, size);
        nodes[number] = node;
        made++;
        around.putIn(node, place);
        noteChange(around);
        return number;
    }

    private static boolean allows(int style, int value) {
        switch (style) {
            case DISPLAY:
            case CLEAR:
                return value >= 0 && value <= 3;
            case FLOAT:
            case POSITION:
            case CONTEXT:
                return value >= 0 && value <= 2;
            case WIDTH:
                return value >= BY_FIT && value <= SO_MUCH || isPercentage(value);
            case HEIGHT:
                return value >= AUTO && value <= SO_MUCH || isPercentage(value);
            case Z:
                return value >= LOWEST_Z && value <= HIGHEST_Z;
            case SHIFT:
                return value >= -10 && value <= 10;
            case COLUMNS:
                return value >= 1 && value <= 4;
            case LEFT:
            case TOP:
                return value >= -200 && value <= 200 || value == NO_OFFSET;
            case EVEN:
                return value == 0 || value == 1;
            default:
                return style <= MARGIN_LEFT ? value >= -40 && value <= 40 : value >= 0 && value <= 20;
        }
    }

    private static boolean isPercentage(int value) {
        return value >= PERCENT && value <= PERCENT + 100;
    }

    /** By these the nodes inside may become other kinds, or contexts with other ways. */
    private static boolean reachesInside(int style) {
        return style == DISPLAY || style == FLOAT || style == POSITION || style == CONTEXT
                || style == COLUMNS;
    }

    private void noteChange(Node node) {
        turn++;
        for (Node at = node; at != null; at = at.parent) {
            at.changedAt = turn;
        }
    }

    private void noteChangeInside(Node node) {
        for (Node at = node; at != null; at = Node.onward(at, node, true)) {
            at.changedAt = turn;
        }
    }

    private void layAgain() {
        Node.assignRoles(root);
        latestWork = kept.layAll(root, pageWidth, turn);
        workDone += latestWork;
        painter.arrange(root);
    }

    /** Longer than an int, as what stands behind or in very wide tables may be further off. */
    private static long sideOf(Node node, int what, Layout layout) {
        if (node.isText()) {
            return what == 3 ? node.size : pieceSide(node, 0, what, layout);
        }
        Place place = layout.placeOf(node);
        switch (what) {
            case 0: return place.rootX;
            case 1: return place.rootY;
            case 2: return place.wide + node.flatEdges();
            default: return place.high + node.uprightEdges();
        }
    }

    private static long pieceSide(Node text, int piece, int what, Layout layout) {
        Thing thing = layout.placeOf(text).pieceAt(piece);
        Node around = text.parent;
        if (thing == null || thing.line == null || around == null) {
            return 0;
        }
        Place base = layout.placeOf(around);
        switch (what) {
            case 0: return base.baseX + thing.leftSide();
            case 1: return base.baseY + thing.topSide();
            default: return thing.length;
        }
    }

    private boolean isHit(Node node, int x, int y) {
        if (node.kind == Kind.SPAN) {
            return false;
        }
        if (!node.isText()) {
            return isWithin(x, sideOf(node, 0, kept), sideOf(node, 2, kept))
                    && isWithin(y, sideOf(node, 1, kept), sideOf(node, 3, kept));
        }
        for (int piece = 0; piece < 2 * node.wordCount; piece++) {
            // A second piece that is not there has the length 0, and so holds no point.
            if (isWithin(x, pieceSide(node, piece, 0, kept), pieceSide(node, piece, 2, kept))
                    && isWithin(y, pieceSide(node, piece, 1, kept), node.size)) {
                return true;
            }
        }
        return false;
    }

    private static boolean isWithin(long point, long from, long length) {
        return point >= from && point < from + length;
    }

    // ---- the classes inside

    /** What a node counts as, whatever its own DISPLAY says. */
    private enum Kind {
        BLOCK, SPAN, INLINE, ROW, CELL, FLOATING, ABSOLUTE, TEXT, OUT;

        private boolean isInLines() {
            return this == TEXT || this == SPAN || this == INLINE;
        }
    }

    /** A box or a text of the tree, with what its styles come to where it stands. */
    private static final class Node {
        private final int number;
        private final Node parent;
        private final int depth;
        private final int size;
        private final int[] styles;
        private final int[] counted;
        private final int[] lengths;
        private final int[] cuts;
        private final Place kept;
        private final Place fresh;
        private Node first;
        private Node next;
        private int wordCount;
        private int changedAt;
        private Kind kind;
        private boolean isTable;
        private boolean isContext;
        private boolean scrolls;
        private int leastWidth;
        private int mostWidth;

        /** A text has a size above 0, a box has 0. */
        private Node(int number, Node parent, int size) {
            this.number = number;
            this.parent = parent;
            this.depth = parent == null ? 0 : parent.depth + 1;
            this.size = size;
            this.styles = new int[STYLES];
            this.counted = new int[STYLES];
            for (int style = 0; style < STYLES; style++) {
                styles[style] = firstValue(style);
                counted[style] = styles[style];
            }
            int room = size > 0 ? WORDS : 0;
            this.lengths = new int[room];
            this.cuts = new int[room];
            this.kept = new Place(size > 0 ? 2 * WORDS : 1);
            this.fresh = new Place(size > 0 ? 2 * WORDS : 1);
            this.kind = size > 0 ? Kind.TEXT : Kind.BLOCK;
        }

        private static int firstValue(int style) {
            switch (style) {
                case WIDTH:
                case HEIGHT:
                    return AUTO;
                case COLUMNS:
                    return 1;
                case LEFT:
                case TOP:
                    return NO_OFFSET;
                default:
                    return 0;
            }
        }

        private boolean isText() {
            return size > 0;
        }

        private boolean holdsLines() {
            return !isText() && !isTable && kind != Kind.SPAN && kind != Kind.ROW;
        }

        private int flatEdges() {
            return counted[EDGE_LEFT] + counted[EDGE_RIGHT];
        }

        private int uprightEdges() {
            return counted[EDGE_TOP] + counted[EDGE_BOTTOM];
        }

        /** What the outer width has beyond the width. */
        private int flatRim() {
            return counted[MARGIN_LEFT] + counted[EDGE_LEFT] + counted[EDGE_RIGHT] + counted[MARGIN_RIGHT];
        }

        private int uprightRim() {
            return counted[MARGIN_TOP] + counted[EDGE_TOP] + counted[EDGE_BOTTOM] + counted[MARGIN_BOTTOM];
        }

        private int countChildren() {
            int count = 0;
            for (Node at = first; at != null; at = at.next) {
                count++;
            }
            return count;
        }

        private void putIn(Node child, int place) {
            Node ahead = null;
            Node at = first;
            for (int passed = 0; passed < place && at != null; passed++) {
                ahead = at;
                at = at.next;
            }
            child.next = at;
            if (ahead == null) {
                first = child;
            } else {
                ahead.next = child;
            }
        }

        private void takeOut(Node child) {
            if (first == child) {
                first = child.next;
            }
            for (Node at = first; at != null; at = at.next) {
                if (at.next == child) {
                    at.next = child.next;
                }
            }
        }

        /** The next node in the order of the tree that is in top, or null. */
        private static Node onward(Node node, Node top, boolean into) {
            if (into && node.first != null) {
                return node.first;
            }
            for (Node at = node; at != null && at != top; at = at.parent) {
                if (at.next != null) {
                    return at.next;
                }
            }
            return null;
        }

        /** The next node in a run that ends with the child last, spans gone into, or null. */
        private static Node onwardInRun(Node node, Node last) {
            if (node.kind == Kind.SPAN && node.first != null) {
                return node.first;
            }
            for (Node at = node; at != null && at != last; at = at.parent) {
                if (at.next != null) {
                    return at.next;
                }
            }
            return null;
        }

        private static Node endOfRun(Node begin) {
            Node last = begin;
            for (Node at = begin.next; at != null && at.mayStandInRun(); at = at.next) {
                if (at.kind.isInLines()) {
                    last = at;
                }
            }
            return last;
        }

        private boolean mayStandInRun() {
            return kind.isInLines() || kind == Kind.FLOATING || kind == Kind.ABSOLUTE;
        }

        private boolean isStack() {
            return parent == null || counted[POSITION] != 0;
        }

        private static void assignRoles(Node root) {
            for (Node at = root; at != null; at = onward(at, root, true)) {
                at.leastWidth = UNKNOWN;
                at.mostWidth = UNKNOWN;
                at.assignRole();
            }
        }

        private void assignRole() {
            kind = findKind();
            if (isText()) {
                return;
            }
            isTable = styles[DISPLAY] == 3
                    && (kind == Kind.BLOCK || kind == Kind.FLOATING || kind == Kind.ABSOLUTE);
            for (int style = 0; style < STYLES; style++) {
                counted[style] = countsFor(style) ? styles[style] : firstValue(style);
            }
            if (isTable || isInColumns()) {
                counted[COLUMNS] = 1;
            }
            scrolls = counted[CONTEXT] == 2 && !isTable && counted[COLUMNS] == 1
                    && countScrollsAround() < 2;
            isContext = parent == null || isTable || counted[CONTEXT] != 0 || counted[COLUMNS] > 1
                    || kind == Kind.FLOATING || kind == Kind.ABSOLUTE || kind == Kind.INLINE
                    || kind == Kind.CELL;
        }

        private Kind findKind() {
            if (parent == null) {
                return Kind.BLOCK;
            }
            boolean inRow = parent.kind == Kind.ROW;
            if (isText()) {
                return parent.isTable || inRow ? Kind.OUT : Kind.TEXT;
            }
            if (parent.isTable || inRow) {
                return inRow ? Kind.CELL : Kind.ROW;
            }
            if (styles[POSITION] == 2) {
                return Kind.ABSOLUTE;
            }
            if (styles[FLOAT] != 0) {
                return Kind.FLOATING;
            }
            if (styles[DISPLAY] == 1) {
                return Kind.SPAN;
            }
            return styles[DISPLAY] == 2 || parent.kind == Kind.SPAN ? Kind.INLINE : Kind.BLOCK;
        }

        private boolean countsFor(int style) {
            switch (kind) {
                case ROW:
                    return false;
                case CELL:
                    return style == HEIGHT || style >= EDGE_TOP && style <= EDGE_LEFT;
                case SPAN:
                    return style == SHIFT;
                default:
                    return true;
            }
        }

        private boolean isInColumns() {
            for (Node at = parent; at != null; at = at.parent) {
                if (at.counted[COLUMNS] > 1) {
                    return true;
                }
            }
            return false;
        }

        private int countScrollsAround() {
            int count = 0;
            for (Node at = parent; at != null; at = at.parent) {
                if (at.scrolls) {
                    count++;
                }
            }
            return count;
        }
    }

    /** A line of a box; its place is one in the flow of the context around it. */
    private static final class Line {
        private long left;
        private int top;
        private int filled;
        private int high;
        private int ascent;
        private Line next;
    }

    /** A word, a piece of one, or an inline block, as it stands in its line. */
    private static final class Thing {
        private Line line;
        private int offset;
        private int length;
        private int ascent;
        private int descent;

        private long leftSide() {
            return line == null ? 0 : line.left + offset;
        }

        private int topSide() {
            return line == null ? 0 : line.top + line.ascent - ascent;
        }
    }

    /** The outer box of a float in the flow of a context. */
    private static final class Floated {
        private int left;
        private int top;
        private int right;
        private int low;
        private boolean isLeft;
        private Floated next;
        /** Whose it is, while it waits for the end of a line. */
        private Node waiting;

        private boolean reachesInto(int x, int w, int a, int b) {
            return right > left && low > top && top < b && low > a && left < x + w && right > x;
        }
    }

    /** What a layout found of a node, and what it remembers of it as a context. */
    private static final class Place {
        /** With the edges, in the flow of the context around it; the static place of an absolute box. */
        private long left;
        private int top;
        private int wide;
        private int high;
        private int known;
        private long rootX;
        private long rootY;
        /** From where the places in it are counted, from those of the root. */
        private long baseX;
        private long baseY;
        private boolean held;
        private Place waitingAround;
        private Line firstLine;
        private Line lastLine;
        private final Floated floated;
        private final Thing[] pieces;
        private int laidAt;
        private int toldWidth;
        private int toldHeight;
        private int laidHigh;
        private int bars;

        private Place(int pieceCount) {
            floated = new Floated();
            pieces = new Thing[pieceCount];
            for (int piece = 0; piece < pieceCount; piece++) {
                pieces[piece] = new Thing();
            }
            known = UNKNOWN;
            laidAt = -1;
        }

        /** The pieces of the word k are 2k and 2k + 1; an inline block is its own piece 0. */
        private Thing pieceAt(int piece) {
            return piece < 0 || piece >= pieces.length ? null : pieces[piece];
        }
    }

    /** Least and most widths; a node keeps its own until the next change. */
    private static final class Measures {
        private static int leastOf(Node box) {
            if (box.leastWidth < 0) {
                box.leastWidth = box.isTable ? leastOfTable(box) : inColumns(box, leastInside(box));
            }
            return box.leastWidth;
        }

        private static int mostOf(Node box) {
            if (box.mostWidth < 0) {
                box.mostWidth = box.isTable ? mostOfTable(box) : inColumns(box, mostInside(box));
            }
            return box.mostWidth;
        }

        private static int inColumns(Node box, int one) {
            int columns = box.counted[COLUMNS];
            return columns * one + columns - 1;
        }

        private static int outerLeast(Node box) {
            int style = box.counted[WIDTH];
            int inner;
            if (style >= 0 && style <= SO_MUCH) {
                inner = style;
            } else {
                inner = style == BY_MOST ? mostOf(box) : leastOf(box);
            }
            return Math.max(0, inner + box.flatRim());
        }

        private static int outerMost(Node box) {
            int style = box.counted[WIDTH];
            int inner;
            if (style >= 0 && style <= SO_MUCH) {
                inner = style;
            } else {
                inner = style == BY_LEAST ? leastOf(box) : mostOf(box);
            }
            return Math.max(0, inner + box.flatRim());
        }

        private static int leastInside(Node box) {
            int widest = 0;
            for (Node at = box.first; at != null; at = Node.onward(at, box, at.kind == Kind.SPAN)) {
                if (at.kind == Kind.TEXT) {
                    widest = Math.max(widest, leastOfWords(at));
                } else if (at.kind != Kind.SPAN && at.kind != Kind.ABSOLUTE) {
                    widest = Math.max(widest, outerLeast(at));
                }
            }
            return widest;
        }

        private static int leastOfWords(Node text) {
            int widest = 0;
            for (int word = 0; word < text.wordCount; word++) {
                int length = text.lengths[word];
                int cut = text.cuts[word];
                widest = Math.max(widest, cut == 0 ? length : Math.max(cut + 1, length - cut));
            }
            return widest;
        }

        private static int mostInside(Node box) {
            int widest = 0;
            for (Node at = box.first; at != null; at = at.next) {
                if (at.kind.isInLines()) {
                    Node last = Node.endOfRun(at);
                    widest = Math.max(widest, mostOfRun(at, last));
                    at = last;
                } else if (at.kind != Kind.ABSOLUTE) {
                    widest = Math.max(widest, outerMost(at));
                }
            }
            return widest;
        }

        private static int mostOfRun(Node begin, Node last) {
            int sum = 0;
            int things = 0;
            for (Node at = begin; at != null; at = Node.onwardInRun(at, last)) {
                if (at.kind == Kind.TEXT) {
                    for (int word = 0; word < at.wordCount; word++) {
                        sum += at.lengths[word];
                    }
                    things += at.wordCount;
                } else if (at.kind != Kind.SPAN && at.kind != Kind.ABSOLUTE) {
                    sum += outerMost(at);
                    things++;
                }
            }
            return things == 0 ? 0 : sum + things - 1;
        }

        private static int countColumns(Node table) {
            int columns = 0;
            for (Node row = table.first; row != null; row = row.next) {
                int cells = 0;
                for (Node cell = row.first; cell != null; cell = cell.next) {
                    if (cell.kind == Kind.CELL) {
                        cells++;
                    }
                }
                columns = Math.max(columns, cells);
            }
            return columns;
        }

        private static Node cellAt(Node row, int column) {
            int passed = 0;
            for (Node cell = row.first; cell != null; cell = cell.next) {
                if (cell.kind == Kind.CELL) {
                    if (passed == column) {
                        return cell;
                    }
                    passed++;
                }
            }
            return null;
        }

        private static int leastOfColumn(Node table, int column) {
            int widest = 0;
            for (Node row = table.first; row != null; row = row.next) {
                Node cell = cellAt(row, column);
                if (cell != null) {
                    widest = Math.max(widest, outerLeast(cell));
                }
            }
            return widest;
        }

        private static int mostOfColumn(Node table, int column) {
            int widest = 0;
            for (Node row = table.first; row != null; row = row.next) {
                Node cell = cellAt(row, column);
                if (cell != null) {
                    widest = Math.max(widest, outerMost(cell));
                }
            }
            return widest;
        }

        private static int leastOfTable(Node table) {
            int columns = countColumns(table);
            int sum = 0;
            int widest = 0;
            for (int column = 0; column < columns; column++) {
                int wide = leastOfColumn(table, column);
                sum += wide;
                widest = Math.max(widest, wide);
            }
            return besideEachOther(table, columns, sum, widest);
        }

        private static int mostOfTable(Node table) {
            int columns = countColumns(table);
            int sum = 0;
            int widest = 0;
            for (int column = 0; column < columns; column++) {
                int wide = mostOfColumn(table, column);
                sum += wide;
                widest = Math.max(widest, wide);
            }
            return besideEachOther(table, columns, sum, widest);
        }

        private static int besideEachOther(Node table, int columns, int sum, int widest) {
            int between = Math.max(0, columns - 1);
            return between + (table.counted[EVEN] == 1 ? widest * columns : sum);
        }
    }

    /** The flow of a context while it is laid out: what is reached, floats, and a line begun. */
    private static final class Flow {
        private int y;
        private int above;
        private int below;
        private Place waiting;
        private Floated firstFloat;
        private Floated lastFloat;
        private int reach;
        /** The container that is flown now. */
        private int left;
        private int wide;
        /** The band that was looked at last; in a line begun, its room. */
        private int bandLeft;
        private int bandRight;
        private boolean reached;
        private Line line;
        private int things;
        private int filled;
        private int ascent;
        private int descent;
        private int thingReach;
        private Floated firstLate;
        private Floated lastLate;

        private void begin() {
            y = 0;
            above = 0;
            below = 0;
            waiting = null;
            firstFloat = null;
            lastFloat = null;
            reach = NOWHERE;
            line = null;
            things = 0;
            filled = 0;
            firstLate = null;
            lastLate = null;
        }

        private void pend(int margin) {
            above = Math.max(above, margin);
            below = Math.min(below, margin);
        }

        private int pendingY() {
            return y + above + below;
        }

        private void dropMargins() {
            above = 0;
            below = 0;
        }

        private void endMargins() {
            y = pendingY();
            dropMargins();
            for (Place at = waiting; at != null; at = at.waitingAround) {
                at.top = y;
                at.held = true;
            }
            waiting = null;
        }

        private void clearFloats(int clear) {
            if (clear == 0) {
                return;
            }
            boolean any = false;
            int low = 0;
            for (Floated at = firstFloat; at != null; at = at.next) {
                if (clear == 3 || at.isLeft == (clear == 1)) {
                    low = any ? Math.max(low, at.low) : at.low;
                    any = true;
                }
            }
            if (low > pendingY()) {
                y = low;
                dropMargins();
            }
        }

        private void reachTo(int right) {
            reach = Math.max(reach, right);
        }

        /** Finds the band of the container from a to b, and whether a float reaches in there. */
        private void look(int a, int b) {
            int low = Math.max(b, a + 1);
            bandLeft = left;
            bandRight = left + wide;
            reached = false;
            for (Floated at = firstFloat; at != null; at = at.next) {
                if (at.reachesInto(left, wide, a, low)) {
                    reached = true;
                    if (at.isLeft) {
                        bandLeft = Math.max(bandLeft, at.right);
                    } else {
                        bandRight = Math.min(bandRight, at.left);
                    }
                }
            }
        }

        private int band() {
            return bandRight - bandLeft;
        }

        /** The next lower end of a float below a height; the height itself, if there is none. */
        private int nextLow(int from) {
            boolean any = false;
            int next = from;
            for (Floated at = firstFloat; at != null; at = at.next) {
                if (at.low > from && (!any || at.low < next)) {
                    next = at.low;
                    any = true;
                }
            }
            return next;
        }

        /** The least height from there on with a band that is wide enough; looks at that band. */
        private int findHeight(int from, int high, int wanted) {
            int height = from;
            for (int tries = 0; tries <= NODES; tries++) {
                look(height, height + high);
                if (!reached || band() >= wanted) {
                    return height;
                }
                height = nextLow(height);
            }
            return height;
        }

        private int floatTop(int from) {
            return lastFloat == null ? from : Math.max(from, lastFloat.top);
        }

        private void addFloat(Floated added) {
            added.next = null;
            if (lastFloat == null) {
                firstFloat = added;
            } else {
                lastFloat.next = added;
            }
            lastFloat = added;
            reachTo(added.right);
        }

        private void addLate(Floated late, Node box) {
            late.waiting = box;
            late.next = null;
            if (lastLate == null) {
                firstLate = late;
            } else {
                lastLate.next = late;
            }
            lastLate = late;
        }

        /** Where the next thing of the line begins, from the left side of its room. */
        private int nextOffset() {
            return things == 0 ? 0 : filled + 1;
        }

        private boolean fits(int length) {
            return nextOffset() + length <= band();
        }

        private int contentHeight() {
            int low = Math.max(0, y);
            for (Floated at = firstFloat; at != null; at = at.next) {
                low = Math.max(low, at.low);
            }
            return low;
        }
    }

    /** The strip of a context with columns: what may not be broken, and where columns begin. */
    private static final class Strip {
        private static final int ITEMS = NODES * (2 * WORDS + 1);

        private final int[] tops = new int[ITEMS];
        private final int[] lows = new int[ITEMS];
        private int items;
        private final int[] breaks = new int[2 * ITEMS + 2];
        private int breakCount;
        private final int[] begins = new int[2 * ITEMS + 2];
        private int columns;

        /** Items are kept by rising tops; they come almost so, and seldom move far. */
        private void add(int top, int low) {
            if (items >= ITEMS) {
                return;
            }
            int at = items;
            while (at > 0 && tops[at - 1] > top) {
                tops[at] = tops[at - 1];
                lows[at] = lows[at - 1];
                at--;
            }
            tops[at] = top;
            lows[at] = low;
            items++;
        }

        private void addPlace(int place, int high) {
            if (place <= 0 || place >= high || breakCount >= breaks.length) {
                return;
            }
            int at = breakCount;
            while (at > 0 && breaks[at - 1] > place) {
                breaks[at] = breaks[at - 1];
                at--;
            }
            breaks[at] = place;
            breakCount++;
        }

        private void findBreaks(int high) {
            breakCount = 1;
            breaks[0] = 0;
            for (int item = 0; item < items; item++) {
                addPlace(tops[item], high);
                addPlace(lows[item], high);
            }
            keepWholeItems();
            if (high > 0 && breakCount < breaks.length) {
                breaks[breakCount] = high;
                breakCount++;
            }
        }

        /** Drops the places that are there twice, and those at which an item would be broken. */
        private void keepWholeItems() {
            int count = 1;
            int item = 0;
            int lowest = 0;
            for (int at = 1; at < breakCount; at++) {
                int place = breaks[at];
                while (item < items && tops[item] < place) {
                    lowest = Math.max(lowest, lows[item]);
                    item++;
                }
                if (lowest <= place && place > breaks[count - 1]) {
                    breaks[count] = place;
                    count++;
                }
            }
            breakCount = count;
        }

        /** Begins columns of a height; answers how many. */
        private int split(int high) {
            columns = 1;
            begins[0] = 0;
            int at = 0;
            for (int step = 0; step < breakCount; step++) {
                int end = breaks[at] + high;
                at++;
                while (at + 1 < breakCount && breaks[at + 1] <= end) {
                    at++;
                }
                if (at + 1 >= breakCount) {
                    break;
                }
                begins[columns] = breaks[at];
                columns++;
            }
            return columns;
        }

        /** The least height with which there are so many columns at most: more height, fewer columns. */
        private int leastHeight(int wanted) {
            int high = breakCount == 0 ? 0 : breaks[breakCount - 1];
            int low = Math.min(1, high);
            for (int step = 0; step < 32 && low < high; step++) {
                int middle = (low + high) / 2;
                if (split(middle) <= wanted) {
                    high = middle;
                } else {
                    low = middle + 1;
                }
            }
            return low;
        }

        private int columnAt(int top) {
            int column = 0;
            while (column + 1 < columns && begins[column + 1] <= top) {
                column++;
            }
            return column;
        }

        private int beginOf(int column) {
            return column < 0 || column >= columns ? 0 : begins[column];
        }
    }

    /** Lays the tree out, with what it remembers, into the nodes' kept or fresh places. */
    private static final class Layout {
        private final boolean isFresh;
        private final Strip strip;
        private final Flow[] flows;
        private Line freeLine;
        private int turn;
        private int count;

        private Layout(boolean isFresh, Strip strip) {
            this.isFresh = isFresh;
            this.strip = strip;
            this.flows = new Flow[DEEPEST + 1];
            for (int depth = 0; depth <= DEEPEST; depth++) {
                flows[depth] = new Flow();
            }
        }

        private Place placeOf(Node node) {
            return isFresh ? node.fresh : node.kept;
        }

        private void forgetAll(Node root) {
            for (Node at = root; at != null; at = Node.onward(at, root, true)) {
                placeOf(at).laidAt = -1;
            }
        }

        /** Lays out what has to be; answers how often contexts were laid out. */
        private int layAll(Node root, int width, int now) {
            turn = now;
            count = 0;
            layOut(root, width, UNKNOWN);
            for (Node at = root; at != null; at = Node.onward(at, root, true)) {
                if (at.kind == Kind.ABSOLUTE) {
                    layAbsolute(at);
                }
            }
            for (Node at = root; at != null; at = Node.onward(at, root, true)) {
                settle(at);
            }
            return count;
        }

        private static Node stackAround(Node node) {
            Node around = node;
            while (around.parent != null) {
                around = around.parent;
                if (around.isStack()) {
                    return around;
                }
            }
            return around;
        }

        private void layAbsolute(Node box) {
            Place around = placeOf(stackAround(box));
            int width = widthIn(box, around.wide, around.wide - box.flatRim());
            layOut(box, width, heightIn(box, around.known));
        }

        // -- places from those of the root

        private void settle(Node node) {
            Place place = placeOf(node);
            Node around = node.parent;
            if (around == null) {
                place.rootX = 0;
                place.rootY = 0;
                place.baseX = 0;
                place.baseY = 0;
            } else if (node.kind == Kind.ABSOLUTE) {
                settleAbsolute(node, place, placeOf(around));
            } else if (!node.isText()) {
                settleInFlow(node, place, placeOf(around));
            }
        }

        private void settleInFlow(Node node, Place place, Place around) {
            boolean moved = node.counted[POSITION] == 1;
            long x = around.baseX + (moved ? offsetOf(node.counted[LEFT]) : 0);
            long y = around.baseY + (moved ? offsetOf(node.counted[TOP]) : 0);
            if (node.kind == Kind.INLINE) {
                place.left = inlineLeft(node, place);
                place.top = inlineTop(node, place);
            }
            place.rootX = x + place.left;
            place.rootY = y + place.top;
            place.baseX = node.isContext ? place.rootX + node.counted[EDGE_LEFT] : x;
            place.baseY = node.isContext ? place.rootY + node.counted[EDGE_TOP] : y;
        }

        private void settleAbsolute(Node node, Place place, Place around) {
            Node stack = stackAround(node);
            Place outer = placeOf(stack);
            int left = node.counted[LEFT];
            int top = node.counted[TOP];
            long x = left == NO_OFFSET ? around.baseX + place.left
                    : outer.rootX + stack.counted[EDGE_LEFT] + left;
            long y = top == NO_OFFSET ? around.baseY + place.top
                    : outer.rootY + stack.counted[EDGE_TOP] + top;
            place.rootX = x + node.counted[MARGIN_LEFT];
            place.rootY = y + node.counted[MARGIN_TOP];
            place.baseX = place.rootX + node.counted[EDGE_LEFT];
            place.baseY = place.rootY + node.counted[EDGE_TOP];
        }

        private static int offsetOf(int style) {
            return style == NO_OFFSET ? 0 : style;
        }

        private static long inlineLeft(Node box, Place place) {
            Thing spot = place.pieceAt(0);
            return spot == null ? 0 : spot.leftSide() + box.counted[MARGIN_LEFT];
        }

        private static int inlineTop(Node box, Place place) {
            Thing spot = place.pieceAt(0);
            return spot == null ? 0 : spot.topSide() + box.counted[MARGIN_TOP];
        }

        // -- widths and heights

        /** The width of a box in a width, of which so much is left. */
        private static int widthIn(Node box, int width, int left) {
            int style = box.counted[WIDTH];
            if (style >= PERCENT) {
                return partOf(width, style - PERCENT, 100);
            }
            if (style >= 0) {
                return style;
            }
            if (style == BY_LEAST) {
                return Measures.leastOf(box);
            }
            if (style == BY_MOST) {
                return Measures.mostOf(box);
            }
            if (style == AUTO && box.kind == Kind.BLOCK && !box.isTable) {
                return Math.max(0, left);
            }
            return Math.max(Measures.leastOf(box), Math.min(Measures.mostOf(box), left));
        }

        private static int heightIn(Node box, int aroundKnown) {
            int style = box.counted[HEIGHT];
            if (style >= PERCENT) {
                return aroundKnown < 0 ? UNKNOWN : partOf(aroundKnown, style - PERCENT, 100);
            }
            return style >= 0 ? style : UNKNOWN;
        }

        /** So many of all parts, rounded down; longer than an int, as tables in tables may be very wide. */
        private static int partOf(int whole, int parts, int all) {
            return all <= 0 ? 0 : (int) ((long) whole * parts / all);
        }

        private int knownHeight(Node box) {
            Node around = box.parent;
            while (around != null && around.kind == Kind.SPAN) {
                around = around.parent;
            }
            return heightIn(box, around == null ? UNKNOWN : placeOf(around).known);
        }

        // -- contexts

        /** Lays a context out, or leaves it as it is remembered. */
        private void layOut(Node box, int width, int known) {
            Place place = placeOf(box);
            place.wide = width;
            place.known = known;
            if (box.isTable) {
                place.high = Math.max(layTable(box, place), known);
                return;
            }
            if (place.laidAt < box.changedAt || place.toldWidth != width || place.toldHeight != known) {
                if (box.scrolls) {
                    place.laidHigh = layWithBars(box, place);
                } else if (box.counted[COLUMNS] > 1) {
                    place.laidHigh = layInColumns(box, place);
                } else {
                    int content = flowContext(box, width);
                    place.laidHigh = known >= 0 ? known : content;
                }
                place.laidAt = turn;
                place.toldWidth = width;
                place.toldHeight = known;
            }
            place.high = place.laidHigh;
        }

        private Flow flowOf(Node context) {
            return flows[Math.max(0, Math.min(context.depth, DEEPEST))];
        }

        /** Answers the height of the content. */
        private int flowContext(Node box, int width) {
            count++;
            Flow flow = flowOf(box);
            flow.begin();
            flowContainer(box, flow, 0, width);
            flow.endMargins();
            return flow.contentHeight();
        }

        private int layWithBars(Node box, Place place) {
            int known = place.known;
            int width = place.wide;
            boolean upright = false;
            boolean flat = false;
            int content = 0;
            // It gets each bar once at most, so that the third time is the last one.
            for (int pass = 0; pass < 3; pass++) {
                content = flowContext(box, upright ? Math.max(0, width - BAR) : width);
                boolean got = false;
                if (!upright && known >= 0 && content > (flat ? known - BAR : known)) {
                    upright = true;
                    got = true;
                }
                if (!flat && flowOf(box).reach > (upright ? width - BAR : width)) {
                    flat = true;
                    got = true;
                }
                if (!got) {
                    break;
                }
            }
            place.bars = (upright ? UPRIGHT : 0) + (flat ? FLAT : 0);
            return known >= 0 ? known : content + (flat ? BAR : 0);
        }

        // -- the flow

        private void flowContainer(Node box, Flow flow, int x, int width) {
            freeLines(placeOf(box));
            for (Node child = box.first; child != null; child = child.next) {
                flow.left = x;
                flow.wide = width;
                if (child.kind.isInLines()) {
                    Node last = Node.endOfRun(child);
                    if (hasThings(child, last)) {
                        flowLines(box, flow, child, last);
                    } else {
                        flowWithoutLines(flow, child, last);
                    }
                    child = last;
                } else if (child.kind != Kind.BLOCK) {
                    flowOutside(child, flow);
                } else if (child.isContext) {
                    flowContextBlock(child, flow);
                } else {
                    flowPlainBlock(child, flow);
                }
            }
        }

        /** A float or an absolute box outside of runs. */
        private void flowOutside(Node child, Flow flow) {
            if (child.kind == Kind.FLOATING) {
                putFloat(child, flow, flow.pendingY());
            } else if (child.kind == Kind.ABSOLUTE) {
                Place place = placeOf(child);
                place.left = flow.left;
                place.top = flow.pendingY();
            }
        }

        private void flowPlainBlock(Node box, Flow flow) {
            Place place = placeOf(box);
            int[] styles = box.counted;
            flow.pend(styles[MARGIN_TOP]);
            flow.clearFloats(styles[CLEAR]);
            place.known = knownHeight(box);
            place.wide = widthIn(box, flow.wide, flow.wide - box.flatRim());
            int left = flow.left + styles[MARGIN_LEFT];
            place.left = left;
            place.held = false;
            place.waitingAround = flow.waiting;
            flow.waiting = place;
            if (styles[EDGE_TOP] > 0) {
                flow.endMargins();
                flow.y += styles[EDGE_TOP];
            }
            flow.reachTo(left + place.wide + box.flatEdges());
            flowContainer(box, flow, left + styles[EDGE_LEFT], place.wide);
            if (place.held) {
                endHeldBlock(styles, place, flow);
            } else {
                endWaitingBlock(styles, place, flow);
            }
            flow.pend(styles[MARGIN_BOTTOM]);
        }

        private static void endWaitingBlock(int[] styles, Place place, Flow flow) {
            place.high = Math.max(0, place.known);
            if (place.high > 0 || styles[EDGE_BOTTOM] > 0) {
                flow.endMargins();
                flow.y += styles[EDGE_BOTTOM] + place.high;
            } else {
                flow.waiting = place.waitingAround;
                place.top = flow.pendingY();
            }
        }

        private static void endHeldBlock(int[] styles, Place place, Flow flow) {
            int inner = place.top + styles[EDGE_TOP];
            if (place.known >= 0) {
                flow.dropMargins();
                place.high = place.known;
                flow.y = inner + place.high + styles[EDGE_BOTTOM];
            } else if (styles[EDGE_BOTTOM] > 0) {
                flow.endMargins();
                place.high = Math.max(0, flow.y - inner);
                flow.y = inner + place.high + styles[EDGE_BOTTOM];
            } else {
                place.high = Math.max(0, flow.y - inner);
            }
        }

        private void flowContextBlock(Node box, Flow flow) {
            Place place = placeOf(box);
            int[] styles = box.counted;
            flow.pend(styles[MARGIN_TOP]);
            flow.clearFloats(styles[CLEAR]);
            flow.endMargins();
            int rim = box.flatRim();
            boolean percentage = styles[WIDTH] >= PERCENT;
            int wanted = percentage ? Math.max(0, widthIn(box, flow.wide, 0) + rim)
                    : Measures.outerLeast(box);
            place.top = flow.findHeight(flow.y, 0, wanted);
            int left = flow.bandLeft + styles[MARGIN_LEFT];
            place.left = left;
            layOut(box, widthIn(box, flow.wide, flow.band() - rim), knownHeight(box));
            flow.y = place.top + place.high + box.uprightEdges();
            flow.reachTo(left + place.wide + box.flatEdges());
            flow.pend(styles[MARGIN_BOTTOM]);
        }

        private void putFloat(Node box, Flow flow, int from) {
            Place place = placeOf(box);
            layOut(box, widthIn(box, flow.wide, flow.wide - box.flatRim()), knownHeight(box));
            int outerWide = place.wide + box.flatRim();
            int outerHigh = place.high + box.uprightRim();
            Floated floated = place.floated;
            floated.isLeft = box.counted[FLOAT] == 1;
            floated.top = flow.findHeight(flow.floatTop(from), outerHigh, outerWide);
            floated.left = floated.isLeft ? flow.bandLeft : flow.bandRight - outerWide;
            floated.right = floated.left + outerWide;
            floated.low = floated.top + outerHigh;
            flow.addFloat(floated);
            place.left = floated.left + box.counted[MARGIN_LEFT];
            place.top = floated.top + box.counted[MARGIN_TOP];
        }

        // -- lines

        private static boolean hasThings(Node begin, Node last) {
            for (Node at = begin; at != null; at = Node.onwardInRun(at, last)) {
                if (at.kind == Kind.INLINE || at.wordCount > 0) {
                    return true;
                }
            }
            return false;
        }

        private void flowWithoutLines(Flow flow, Node begin, Node last) {
            for (Node at = begin; at != null; at = Node.onwardInRun(at, last)) {
                flowOutside(at, flow);
            }
        }

        private void flowLines(Node box, Flow flow, Node begin, Node last) {
            flow.endMargins();
            for (Node at = begin; at != null; at = Node.onwardInRun(at, last)) {
                switch (at.kind) {
                    case TEXT:
                        addWords(box, flow, at);
                        break;
                    case INLINE:
                        addInlineBlock(box, flow, at);
                        break;
                    case FLOATING:
                        meetFloat(flow, at);
                        break;
                    case ABSOLUTE:
                        meetAbsolute(flow, at);
                        break;
                    default:
                        break;
                }
            }
            endLine(flow);
        }

        private static int shiftOf(Node node) {
            int shift = node.isText() ? 0 : node.counted[SHIFT];
            for (Node at = node.parent; at != null && at.kind == Kind.SPAN; at = at.parent) {
                shift += at.counted[SHIFT];
            }
            return shift;
        }

        private void addWords(Node box, Flow flow, Node text) {
            Place place = placeOf(text);
            int plain = text.size * 3 / 4;
            int shift = shiftOf(text);
            for (int word = 0; word < text.wordCount; word++) {
                Thing whole = place.pieceAt(2 * word);
                Thing rest = place.pieceAt(2 * word + 1);
                if (whole != null && rest != null) {
                    whole.length = text.lengths[word];
                    whole.ascent = plain + shift;
                    whole.descent = text.size - plain - shift;
                    rest.length = 0;
                    rest.line = null;
                    addThing(box, flow, whole, rest, text.cuts[word]);
                }
            }
        }

        private void addInlineBlock(Node box, Flow flow, Node block) {
            Place place = placeOf(block);
            Thing spot = place.pieceAt(0);
            if (spot == null) {
                return;
            }
            layOut(block, widthIn(block, flow.wide, flow.wide - block.flatRim()), knownHeight(block));
            int shift = shiftOf(block);
            spot.length = place.wide + block.flatRim();
            spot.ascent = place.high + block.uprightRim() + shift;
            spot.descent = -shift;
            addThing(box, flow, spot, spot, 0);
            int right = spot.offset + block.counted[MARGIN_LEFT] + place.wide + block.flatEdges();
            flow.thingReach = Math.max(flow.thingReach, right);
        }

        private void addThing(Node box, Flow flow, Thing whole, Thing rest, int cut) {
            Thing thing = whole;
            boolean mayCut = cut > 0;
            for (int tries = 0; tries < TRIES; tries++) {
                if (flow.things == 0) {
                    flow.look(flow.y, flow.y);
                }
                if (flow.fits(thing.length)) {
                    putThing(box, flow, thing);
                    return;
                }
                if (mayCut && flow.fits(cut + 1)) {
                    rest.length = whole.length - cut;
                    rest.ascent = whole.ascent;
                    rest.descent = whole.descent;
                    whole.length = cut + 1;
                    putThing(box, flow, whole);
                    endLine(flow);
                    thing = rest;
                    mayCut = false;
                } else if (flow.things > 0) {
                    endLine(flow);
                } else if (flow.reached) {
                    flow.y = flow.nextLow(flow.y);
                } else {
                    putThing(box, flow, thing);
                    return;
                }
            }
        }

        private void putThing(Node box, Flow flow, Thing thing) {
            if (flow.things == 0) {
                flow.line = addLine(placeOf(box));
                flow.ascent = thing.ascent;
                flow.descent = thing.descent;
                flow.thingReach = NOWHERE;
            }
            thing.line = flow.line;
            thing.offset = flow.nextOffset();
            flow.filled = thing.offset + thing.length;
            flow.ascent = Math.max(flow.ascent, thing.ascent);
            flow.descent = Math.max(flow.descent, thing.descent);
            flow.things++;
        }

        /** Ends the line, if there is something in it, and puts the floats that wait for that. */
        private void endLine(Flow flow) {
            Line line = flow.line;
            if (flow.things == 0 || line == null) {
                return;
            }
            line.left = flow.bandLeft;
            line.top = flow.y;
            line.filled = flow.filled;
            line.ascent = flow.ascent;
            line.high = Math.max(0, flow.ascent + flow.descent);
            flow.reachTo(flow.bandLeft + flow.filled);
            flow.reachTo(flow.bandLeft + flow.thingReach);
            flow.y += line.high;
            flow.things = 0;
            flow.filled = 0;
            Floated late = flow.firstLate;
            flow.firstLate = null;
            flow.lastLate = null;
            while (late != null) {
                Floated after = late.next;
                Node box = late.waiting;
                if (box != null) {
                    putFloat(box, flow, flow.y);
                }
                late = after;
            }
        }

        private void meetFloat(Flow flow, Node box) {
            if (flow.things == 0) {
                putFloat(box, flow, flow.y);
                return;
            }
            int rim = box.flatRim();
            int outer = rim + widthIn(box, flow.wide, flow.wide - rim);
            if (outer <= flow.band() - flow.filled) {
                putFloat(box, flow, flow.y);
                flow.look(flow.y, flow.y);
            } else {
                flow.addLate(placeOf(box).floated, box);
            }
        }

        private void meetAbsolute(Flow flow, Node box) {
            if (flow.things == 0) {
                flow.look(flow.y, flow.y);
            }
            Place place = placeOf(box);
            place.left = flow.bandLeft + flow.nextOffset();
            place.top = flow.y;
        }

        private Line addLine(Place container) {
            Line line = freeLine;
            if (line == null) {
                line = new Line();
            } else {
                freeLine = line.next;
            }
            line.next = null;
            if (container.lastLine == null) {
                container.firstLine = line;
            } else {
                container.lastLine.next = line;
            }
            container.lastLine = line;
            return line;
        }

        /** Lines are used again, so that a long run makes few. */
        private void freeLines(Place container) {
            if (container.lastLine != null) {
                container.lastLine.next = freeLine;
                freeLine = container.firstLine;
            }
            container.firstLine = null;
            container.lastLine = null;
        }

        // -- tables

        /** Answers the height of the rows together. */
        private int layTable(Node table, Place place) {
            int columns = Measures.countColumns(table);
            int room = Math.max(0, place.wide - (columns - 1));
            if (table.counted[EVEN] == 1) {
                placeEvenly(table, columns, room);
            } else {
                placeByContent(table, columns, room);
            }
            int y = 0;
            boolean any = false;
            for (Node row = table.first; row != null; row = row.next) {
                if (row.kind == Kind.ROW) {
                    y += any ? 1 : 0;
                    any = true;
                    Place rowPlace = placeOf(row);
                    rowPlace.left = 0;
                    rowPlace.top = y;
                    rowPlace.wide = place.wide;
                    rowPlace.known = UNKNOWN;
                    rowPlace.high = layRow(row, y);
                    y += rowPlace.high;
                }
            }
            return y;
        }

        private int layRow(Node row, int y) {
            int highest = 0;
            for (Node cell = row.first; cell != null; cell = cell.next) {
                if (cell.kind == Kind.CELL) {
                    Place place = placeOf(cell);
                    layOut(cell, place.wide, heightIn(cell, UNKNOWN));
                    highest = Math.max(highest, place.high + cell.uprightEdges());
                }
            }
            for (Node cell = row.first; cell != null; cell = cell.next) {
                if (cell.kind == Kind.CELL) {
                    Place place = placeOf(cell);
                    place.top = y;
                    place.high = highest - cell.uprightEdges();
                }
            }
            return highest;
        }

        private void placeEvenly(Node table, int columns, int room) {
            if (columns <= 0) {
                return;
            }
            int wide = room / columns;
            for (int column = 0; column < columns; column++) {
                placeColumn(table, column, column * (wide + 1), wide);
            }
        }

        private void placeByContent(Node table, int columns, int room) {
            int least = 0;
            int lack = 0;
            for (int column = 0; column < columns; column++) {
                least += Measures.leastOfColumn(table, column);
                lack += lackOf(table, column);
            }
            // With room for all that they can take, each gets all that it lacks.
            int rest = Math.max(0, Math.min(lack, room - least));
            int over = rest;
            for (int column = 0; column < columns; column++) {
                over -= partOf(rest, lackOf(table, column), lack);
            }
            int x = 0;
            for (int column = 0; column < columns; column++) {
                int own = lackOf(table, column);
                int wide = Measures.leastOfColumn(table, column) + partOf(rest, own, lack);
                if (over > 0 && own > 0) {
                    wide++;
                    over--;
                }
                placeColumn(table, column, x, wide);
                x += wide + 1;
            }
        }

        private static int lackOf(Node table, int column) {
            return Measures.mostOfColumn(table, column) - Measures.leastOfColumn(table, column);
        }

        private void placeColumn(Node table, int column, int x, int wide) {
            for (Node row = table.first; row != null; row = row.next) {
                Node cell = Measures.cellAt(row, column);
                if (cell != null) {
                    Place place = placeOf(cell);
                    place.left = x;
                    place.wide = Math.max(0, wide - cell.flatEdges());
                }
            }
        }

        // -- columns

        private int layInColumns(Node box, Place place) {
            int columns = Math.max(1, box.counted[COLUMNS]);
            int one = Math.max(1, (place.wide - (columns - 1)) / columns);
            int content = flowContext(box, one);
            gatherItems(box);
            strip.findBreaks(content);
            int high = place.known >= 0 ? place.known : strip.leastHeight(columns);
            strip.split(high);
            moveToColumns(box, one + 1);
            return high;
        }

        private static boolean isFlownThrough(Node node) {
            return node.kind == Kind.SPAN || node.kind == Kind.BLOCK && !node.isContext;
        }

        private void gatherItems(Node box) {
            strip.items = 0;
            gatherLines(placeOf(box));
            for (Node at = box.first; at != null; at = Node.onward(at, box, isFlownThrough(at))) {
                Place place = placeOf(at);
                if (at.kind == Kind.FLOATING) {
                    strip.add(place.floated.top, place.floated.low);
                } else if (at.kind == Kind.INLINE) {
                    int top = inlineTop(at, place);
                    strip.add(top, top + place.high + at.uprightEdges());
                } else if (at.kind == Kind.BLOCK && at.isContext) {
                    strip.add(place.top, place.top + place.high + at.uprightEdges());
                } else if (at.kind == Kind.BLOCK) {
                    gatherLines(place);
                }
            }
        }

        private void gatherLines(Place container) {
            for (Line line = container.firstLine; line != null; line = line.next) {
                strip.add(line.top, line.top + line.high);
            }
        }

        private void moveToColumns(Node box, int step) {
            moveLines(placeOf(box), step);
            for (Node at = box.first; at != null; at = Node.onward(at, box, isFlownThrough(at))) {
                if (at.kind == Kind.BLOCK || at.kind == Kind.FLOATING || at.kind == Kind.ABSOLUTE) {
                    Place place = placeOf(at);
                    int column = strip.columnAt(place.top);
                    place.left += (long) column * step;
                    place.top -= strip.beginOf(column);
                    if (isFlownThrough(at)) {
                        moveLines(place, step);
                    }
                }
            }
        }

        private void moveLines(Place container, int step) {
            for (Line line = container.firstLine; line != null; line = line.next) {
                int column = strip.columnAt(line.top);
                line.left += (long) column * step;
                line.top -= strip.beginOf(column);
            }
        }
    }

    /** The order of painting. */
    private static final class Painter {
        private static final int GROUND = 0;
        private static final int FLOATS = 1;
        private static final int INLINES = 2;

        private final Node[] order = new Node[NODES];
        private int count;

        private Node at(int place) {
            return place < 0 || place >= count || place >= NODES ? null : order[place];
        }

        private void arrange(Node root) {
            count = 0;
            paintStack(root);
        }

        private void add(Node node) {
            if (count < NODES) {
                order[count] = node;
                count++;
            }
        }

        private void paintStack(Node stack) {
            add(stack);
            for (int z = LOWEST_Z; z < 0; z++) {
                paintStacksIn(stack, z);
            }
            paintInside(stack);
            for (int z = 0; z <= HIGHEST_Z; z++) {
                paintStacksIn(stack, z);
            }
        }

        private void paintStacksIn(Node stack, int z) {
            Node at = stack.first;
            while (at != null) {
                boolean isStack = at.isStack();
                if (isStack && at.counted[Z] == z) {
                    paintStack(at);
                }
                at = Node.onward(at, stack, !isStack);
            }
        }

        /** What is in a stack, a float or an inline block, and belongs to it alone. */
        private void paintInside(Node owner) {
            for (int step = GROUND; step <= INLINES; step++) {
                Node at = owner.first;
                while (at != null) {
                    boolean isStack = at.isStack();
                    boolean isWhole = at.kind == Kind.FLOATING || at.kind == Kind.INLINE;
                    if (!isStack && stepOf(at) == step) {
                        add(at);
                        if (isWhole) {
                            paintInside(at);
                        }
                    }
                    at = Node.onward(at, owner, !isStack && !isWhole);
                }
            }
        }

        private static int stepOf(Node node) {
            switch (node.kind) {
                case OUT:
                    return -1;
                case FLOATING:
                    return FLOATS;
                case TEXT:
                case SPAN:
                case INLINE:
                    return INLINES;
                default:
                    return GROUND;
            }
        }
    }
}
