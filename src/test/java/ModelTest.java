import java.util.Random;

/** Random runs of calls, each answer compared with that of the plain model. */
public final class ModelTest {
    private static final int GONE = 1, BAD = 2, STATE = 3, FINE = 0;
    private static final StringBuilder told = new StringBuilder();
    private static int wrong = 0;

    private interface Call {
        int go();
    }

    /** The answer, or which exception came: 1 index, 2 argument, 3 state. */
    private static long answer(Call call) {
        try {
            return call.go();
        } catch (IndexOutOfBoundsException e) {
            return (1L << 40) + GONE;
        } catch (IllegalArgumentException e) {
            return (1L << 40) + BAD;
        } catch (IllegalStateException e) {
            return (1L << 40) + STATE;
        }
    }

    private static long thrown(int kind) {
        return (1L << 40) + kind;
    }

    private static void due(String what, long got, long want) {
        if (got != want) {
            wrong++;
            if (wrong < 4) System.out.println(told + what + " answered " + got + ", due is " + want);
        }
    }

    public static void main(String[] args) {
        long from = args.length > 0 ? Long.parseLong(args[0]) : 1;
        long runs = args.length > 1 ? Long.parseLong(args[1]) : 1500;
        for (long seed = from; seed < from + runs && wrong == 0; seed++) run(seed);
        System.out.println(wrong == 0 ? "the model agrees" : wrong + " answers differ");
        if (wrong != 0) System.exit(1);
    }

    private static void run(long seed) {
        Random r = new Random(seed);
        told.setLength(0);
        told.append("seed ").append(seed).append('\n');
        FlowBoxes boxes = new FlowBoxes();
        PlainModel model = new PlainModel();
        Tune tune = new Tune(r);
        int calls = 40 + r.nextInt(160);
        if (r.nextInt(8) == 0) {
            calls = r.nextInt(30);
            goFarOff(boxes, model, r);
        }
        for (int k = 0; k < calls && wrong == 0; k++) {
            change(boxes, model, r, tune);
            due("work()", boxes.work(), model.work);
            due("latest()", boxes.latest(), model.latest);
            if (r.nextInt(8) == 0 || k == calls - 1) compareAll(boxes, model, r);
            else compareSome(boxes, model, r);
        }
    }

    private static int grow(FlowBoxes boxes, PlainModel model, int parent, int size) {
        if (model.all.size() >= 60 || model.depth(parent) >= 20) return parent;
        int place = model.at(parent).kids.size();
        told.append(size == 0 ? "box(" : "text(").append(parent + ", " + place + (size == 0 ? ")\n" : ", " + size + ")\n"));
        int node = model.add(parent, place, size);
        due("", size == 0 ? boxes.box(parent, place) : boxes.text(parent, place, size), node);
        return node;
    }

    private static void put(FlowBoxes boxes, PlainModel model, int box, int... styles) {
        for (int k = 0; k < styles.length; k += 2) {
            told.append("style(" + box + ", " + styles[k] + ", " + styles[k + 1] + ")\n");
            due("", boxes.style(box, styles[k], styles[k + 1]), model.style(box, styles[k], styles[k + 1]));
        }
    }

    private static void fill(FlowBoxes boxes, PlainModel model, int parent, int size, int words, int length) {
        int text = grow(boxes, model, parent, size);
        for (int k = 0; text != parent && k < words; k++) {
            told.append("word(" + text + ", " + length + ", " + length / 2 + ")\n");
            due("", boxes.word(text, length, length / 2), model.word(text, length, length / 2));
        }
    }

    /** Tables in tables, even ones, so that what is in their last cells is very far to the right. */
    private static void goFarOff(FlowBoxes boxes, PlainModel model, Random r) {
        int levels = 5 + r.nextInt(2), tables = 46 + r.nextInt(6);
        int cell = 0;
        for (int level = 0; level < levels; level++) {
            int table = grow(boxes, model, cell, 0);
            int row = grow(boxes, model, table, 0);
            int cells = (tables - model.all.size()) / (levels - level) - r.nextInt(2);
            for (int k = 0; k < cells; k++) cell = grow(boxes, model, row, 0);
            put(boxes, model, table, 0, 3, 20, r.nextInt(30) == 0 ? 0 : 1);
        }
        put(boxes, model, 1, 3, 1, 4, -3);
        int inner = grow(boxes, model, cell, 0);
        put(boxes, model, inner, 17, r.nextInt(4) == 0 ? 1 : 4);
        for (int k = 3 + r.nextInt(3); k > 0; k--) fill(boxes, model, inner, 1 + r.nextInt(4), 20, 30);
        int around = grow(boxes, model, cell, 0);
        put(boxes, model, around, 3, 2, 4, 1100, 5, r.nextInt(3), 17, r.nextInt(4) == 0 ? 1 : 2);
        while (model.all.size() < 60 && r.nextInt(12) > 0) {
            int part = grow(boxes, model, around, 0);
            if (part == around) return;
            int kind = model.at(part).parent.kids.size() < 3 ? r.nextInt(3) : r.nextInt(6);
            if (kind < 2) {
                put(boxes, model, part, 4, r.nextInt(8));
                fill(boxes, model, part, 1 + r.nextInt(3), 20, 1 + r.nextInt(20));
            } else {
                int style = kind == 2 ? 0 : kind == 5 ? 3 : 1;
                put(boxes, model, part, style, style == 1 ? 1 + r.nextInt(2) : 2);
                put(boxes, model, part, 4, 1000 + (r.nextBoolean() ? 100 : r.nextInt(101)), 5, r.nextInt(5));
                if (r.nextBoolean()) around = part;
            }
        }
    }

    /** What a run leans to, so that all parts of the document are met together. */
    private static final class Tune {
        final int margins, texts, deep, nodes;
        /** Whether values at the ends of what the styles allow come often. */
        final boolean ends;
        final int[] often;

        Tune(Random r) {
            margins = r.nextInt(4);
            texts = 1 + r.nextInt(3);
            deep = r.nextInt(3);
            nodes = r.nextInt(3) == 0 ? 60 : 4 + r.nextInt(16);
            int[] kinds = {0, 1, 3, 14, 17};
            often = new int[4 + r.nextInt(5)];
            for (int k = 0; k < often.length; k++) often[k] = k < 2 ? kinds[r.nextInt(5)] : r.nextInt(21);
            ends = r.nextInt(3) == 0;
        }
    }

    private static int pick(Random r, PlainModel model) {
        return r.nextInt(40) == 0 ? r.nextInt(70) - 3 : r.nextInt(model.all.size());
    }

    private static void change(FlowBoxes boxes, PlainModel model, Random r, Tune tune) {
        int node = tune.deep == 2 && r.nextInt(3) == 0 ? model.all.size() - 1 : pick(r, model);
        PlainModel.Node n = model.at(node);
        boolean isBox = n != null && !n.text;
        boolean isText = n != null && n.text;
        int choice = r.nextInt(24);
        if (choice < 7 && model.all.size() >= tune.nodes) choice = 23;
        if (choice < 4) {
            int place = isBox ? r.nextInt(n.kids.size() + 1) - (r.nextInt(30) == 0 ? 1 : 0) : 0;
            told.append("box(" + node + ", " + place + ")\n");
            long got = answer(() -> boxes.box(node, place));
            if (!isBox || place < 0) due("", got, thrown(GONE));
            else if (model.all.size() >= 60 || model.depth(node) >= 20) due("", got, thrown(STATE));
            else due("", got, model.add(node, place, 0));
        } else if (choice < 4 + tune.texts) {
            int place = isBox ? r.nextInt(n.kids.size() + 1) + (r.nextInt(30) == 0 ? 1 : 0) : 0;
            int size = 1 + r.nextInt(r.nextInt(20) == 0 ? 21 : 7);
            told.append("text(" + node + ", " + place + ", " + size + ")\n");
            long got = answer(() -> boxes.text(node, place, size));
            if (!isBox || place > n.kids.size()) due("", got, thrown(GONE));
            else if (size > 20) due("", got, thrown(BAD));
            else if (model.all.size() >= 60 || model.depth(node) >= 20) due("", got, thrown(STATE));
            else due("", got, model.add(node, place, size));
        } else if (choice < 13) {
            int text = isText ? node : aText(model, r, node);
            int length = r.nextInt(20) == 0 ? r.nextInt(32) : 1 + r.nextInt(12);
            int cut = r.nextInt(3) == 0 ? r.nextInt(Math.max(1, length) + (r.nextInt(20) == 0 ? 1 : 0)) : 0;
            told.append("word(" + text + ", " + length + ", " + cut + ")\n");
            long got = answer(() -> boxes.word(text, length, cut));
            PlainModel.Node t = model.at(text);
            if (t == null || !t.text) due("", got, thrown(GONE));
            else if (length < 1 || length > 30 || cut >= length) due("", got, thrown(BAD));
            else if (t.words.size() >= 20) due("", got, thrown(STATE));
            else due("", got, model.word(text, length, cut));
        } else if (choice == 13) {
            int text = isText ? node : aText(model, r, node);
            told.append("unword(" + text + ")\n");
            long got = answer(() -> boxes.unword(text));
            PlainModel.Node t = model.at(text);
            if (t == null || !t.text) due("", got, thrown(GONE));
            else if (t.words.isEmpty()) due("", got, thrown(STATE));
            else due("", got, model.unword(text));
        } else if (choice == 14 && r.nextInt(4) == 0) {
            told.append("remove(" + node + ")\n");
            long got = answer(() -> boxes.remove(node));
            if (n == null) due("", got, thrown(GONE));
            else if (node == 0) due("", got, thrown(STATE));
            else due("", got, model.remove(node));
        } else if (choice == 15) {
            int width = r.nextInt(20) == 0 ? r.nextInt(303) : 1 + r.nextInt(60);
            told.append("page(" + width + ")\n");
            long got = answer(() -> boxes.page(width));
            if (width < 1 || width > 300) due("", got, thrown(BAD));
            else due("", got, model.page(width));
        } else {
            setStyle(boxes, model, r, tune, node);
        }
    }

    private static int aText(PlainModel model, Random r, int other) {
        for (int k = 0; k < 8; k++) {
            int id = r.nextInt(model.all.size());
            if (model.at(id) != null && model.at(id).text) return id;
        }
        return other;
    }

    private static void setStyle(FlowBoxes boxes, PlainModel model, Random r, Tune tune, int node) {
        int style = r.nextInt(3) > 0 ? tune.often[r.nextInt(tune.often.length)] : r.nextInt(21);
        int value = value(r, style, tune);
        told.append("style(" + node + ", " + style + ", " + value + ")\n");
        int s = style;
        long got = answer(() -> boxes.style(node, s, value));
        PlainModel.Node n = model.at(node);
        if (n == null || n.text) due("", got, thrown(GONE));
        else if (!allowed(s, value)) due("", got, thrown(BAD));
        else if (node == 0) due("", got, thrown(STATE));
        else due("", got, model.style(node, s, value));
    }

    private static final int[] LOW = {0, 0, 0, 0, -4, -1, -40, -40, -40, -40, 0, 0, 0, 0, 0, -9, -10, 1, -200, -200, 0};
    private static final int[] HIGH = {3, 2, 3, 2, 200, 200, 40, 40, 40, 40, 20, 20, 20, 20, 2, 9, 10, 4, 200, 200, 1};

    private static final int[] LENGTHS = {0, 0, 1, 2, 3, -1, 200, 1000, 1001, 1099, 1100};
    private static final int[] MARGINS = {0, 0, 1, -1, -5, 20, -20, -39, 40, -40};
    private static final int[] EDGES = {0, 0, 1, 20};
    private static final int[] OFFSETS = {-1000, -200, -1, 0, 200};
    private static final int[][] ENDS = {{}, {}, {}, {}, LENGTHS, LENGTHS, MARGINS, MARGINS, MARGINS, MARGINS, EDGES, EDGES, EDGES, EDGES,
        {2}, {-9, -1, 0, 1, 9}, {-10, 10}, {1, 2, 4}, OFFSETS, OFFSETS, {0, 1}};

    private static boolean allowed(int s, int v) {
        if ((s == 4 || s == 5) && v >= 1000 && v <= 1100) return true;
        if ((s == 18 || s == 19) && v == -1000) return true;
        return v >= LOW[s] && v <= HIGH[s];
    }

    private static int value(Random r, int style, Tune tune) {
        if (r.nextInt(60) == 0) return LOW[style] - 1 - r.nextInt(3);
        if (r.nextInt(60) == 0) return HIGH[style] + 1 + r.nextInt(3);
        if (r.nextInt(60) == 0) return HIGH[style];
        if (tune.ends && style >= 4 && r.nextInt(3) > 0) return ENDS[style][r.nextInt(ENDS[style].length)];
        switch (style) {
            case 4: {
                int k = r.nextInt(8);
                return k < 4 ? -1 - k : k < 6 ? r.nextInt(30) : 1000 + (r.nextInt(4) == 0 ? r.nextInt(103) : 25 * r.nextInt(5));
            }
            case 5: {
                int k = r.nextInt(8);
                return k < 2 ? -1 : k < 6 ? r.nextInt(14) : 1000 + (r.nextInt(4) == 0 ? r.nextInt(103) : 25 * r.nextInt(5));
            }
            case 6: case 7: case 8: case 9:
                return tune.margins == 0 ? r.nextInt(5) : r.nextInt(3) == 0 ? r.nextInt(81) - 40 : r.nextInt(12) - 4;
            case 10: case 11: case 12: case 13:
                return r.nextInt(3) == 0 ? 0 : r.nextInt(4);
            case 18: case 19:
                return r.nextInt(3) == 0 ? -1000 : r.nextInt(21) - 10;
            default:
                return LOW[style] + r.nextInt(HIGH[style] - LOW[style] + 1);
        }
    }

    private static void compareSome(FlowBoxes boxes, PlainModel model, Random r) {
        compareNode(boxes, model, r, pick(r, model));
    }

    private static void compareAll(FlowBoxes boxes, PlainModel model, Random r) {
        for (int node = 0; node < model.all.size(); node++) compareNode(boxes, model, r, node);
        java.util.List<PlainModel.Node> order = model.painting();
        due("painted()", boxes.painted(), order.size());
        for (int k = 0; k < order.size(); k++) {
            int place = k;
            due("paint(" + k + ")", answer(() -> boxes.paint(place)), order.get(k).id);
        }
        due("paint past the end", answer(() -> boxes.paint(order.size())), thrown(GONE));
        due("paint(-1)", answer(() -> boxes.paint(-1)), thrown(GONE));
        for (int k = 0; k < 25; k++) {
            int x = aPoint(model, r, 0, 70), y = aPoint(model, r, 1, 50);
            due("hit(" + x + ", " + y + ")", boxes.hit(x, y), model.hit(x, y));
        }
    }

    /** Anywhere near the root's top left, or at a side of a node, or at the end of what an int can be. */
    private static int aPoint(PlainModel model, Random r, int side, int far) {
        PlainModel.Node n = model.at(r.nextInt(model.all.size()));
        if (n != null && r.nextBoolean()) {
            long from = model.side(n.id, side), length = model.side(n.id, side + 2);
            if (from != PlainModel.STATE) return (int) (from + (r.nextBoolean() ? length : 0) - r.nextInt(2));
        }
        return r.nextInt(20) == 0 ? Integer.MAX_VALUE : r.nextInt(20) == 0 ? Integer.MIN_VALUE : r.nextInt(far) - 5;
    }

    private static void compareNode(FlowBoxes boxes, PlainModel model, Random r, int node) {
        PlainModel.Node n = model.at(node);
        long[] sides = {answer(() -> boxes.x(node)), answer(() -> boxes.y(node)), answer(() -> boxes.width(node)),
                answer(() -> boxes.height(node))};
        for (int what = 0; what < 4; what++) {
            long want = n == null ? thrown(GONE) : stated(model.side(node, what));
            due("side " + what + " of " + node, sides[what], want);
            int w = what;
            if (r.nextInt(6) == 0) due("fromNothing(" + node + ", " + what + ")", answer(() -> boxes.fromNothing(node, w)), want);
        }
        int odd = r.nextInt(2) == 0 ? -1 : 4;
        due("fromNothing(" + node + ", " + odd + ")", answer(() -> boxes.fromNothing(node, odd)), n == null ? thrown(GONE) : thrown(BAD));
        if (n == null || !n.text) compareBox(boxes, model, r, node);
        if (n == null || n.text) compareText(boxes, model, r, node);
        if (n != null && n.text) {
            due("children of a text", answer(() -> boxes.children(node)), thrown(GONE));
            due("least of a text", answer(() -> boxes.least(node)), thrown(GONE));
            due("bars of a text", answer(() -> boxes.bars(node)), thrown(GONE));
            due("lines of a text", answer(() -> boxes.lines(node)), thrown(GONE));
        }
    }

    private static long stated(long answer) {
        return answer == PlainModel.STATE ? thrown(STATE) : (int) answer;
    }

    private static void compareBox(FlowBoxes boxes, PlainModel model, Random r, int node) {
        boolean is = model.at(node) != null;
        PlainModel.Node n = model.at(node);
        due("children(" + node + ")", answer(() -> boxes.children(node)), is ? n.kids.size() : thrown(GONE));
        due("least(" + node + ")", answer(() -> boxes.least(node)), is ? stated(model.measure(node, false)) : thrown(GONE));
        due("most(" + node + ")", answer(() -> boxes.most(node)), is ? stated(model.measure(node, true)) : thrown(GONE));
        due("bars(" + node + ")", answer(() -> boxes.bars(node)), is ? stated(model.bars(node)) : thrown(GONE));
        boolean holds = is && model.holdsLines(node);
        due("lines(" + node + ")", answer(() -> boxes.lines(node)), !is ? thrown(GONE) : holds ? n.lines.size() : thrown(STATE));
        int count = holds ? n.lines.size() : 1;
        for (int k = -1; k <= count; k++) {
            int line = k;
            int what = r.nextInt(6);
            long want;
            if (!is) want = thrown(GONE);
            else if (!holds) want = thrown(what == 5 ? BAD : STATE);
            else if (k < 0 || k >= count) want = thrown(GONE);
            else if (what == 5) want = thrown(BAD);
            else want = (int) model.line(node, k, what);
            due("line(" + node + ", " + k + ", " + what + ")", answer(() -> boxes.line(node, line, what)), want);
        }
    }

    private static void compareText(FlowBoxes boxes, PlainModel model, Random r, int node) {
        PlainModel.Node n = model.at(node);
        int count = n == null ? 0 : n.words.size();
        for (int k = -1; k <= count; k++) {
            int word = k;
            for (int w = 0; w < 4; w++) {
                int what = w;
                long want;
                if (n == null || k < 0 || k >= count) want = thrown(GONE);
                else if (what == 3) want = thrown(BAD);
                else if (n.kind == PlainModel.OUT) want = thrown(STATE);
                else want = (int) model.piece(n, k, what);
                due("wordAt(" + node + ", " + k + ", " + what + ")", answer(() -> boxes.wordAt(node, word, what)), want);
            }
        }
    }
}
