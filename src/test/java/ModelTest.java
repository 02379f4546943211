import java.util.Random;

/**
 * Runs of calls that are drawn by fixed seeds, each answer compared with the model's. Arguments go a
 * little beyond their ranges, so that errors come, too. An argument tells how many runs (500).
 */
public final class ModelTest {
    private final Random random;
    private final MeshTurns x = new MeshTurns();
    private final Model model = new Model();
    private final int seed;
    private final int boxes;
    private final int dearness;

    private ModelTest(int seed) {
        this.seed = seed;
        random = new Random(seed);
        int columns = between(2, 5);
        int rows = between(2, 5);
        due("mesh(" + columns + ", " + rows + ")", x.mesh(columns, rows), model.mesh(columns, rows));
        boxes = columns * rows;
        // The model takes long for the worst link of a large mesh.
        dearness = boxes * boxes * boxes;
    }

    public static void main(String[] args) {
        int runs = args.length > 0 ? Integer.parseInt(args[0]) : 500;
        for (int seed = 0; seed < runs; seed++) {
            new ModelTest(seed).run();
        }
        Due.finish();
    }

    private int between(int low, int high) {
        return low + random.nextInt(high - low + 1);
    }

    private boolean oneIn(int many) {
        return random.nextInt(many) == 0;
    }

    /** A number of the range, and now and then one beside it. */
    private int around(int low, int high) {
        if (oneIn(40)) {
            return oneIn(2) ? low - 1 : high + 1;
        }
        if (oneIn(200)) {
            return random.nextInt();
        }
        return between(low, high);
    }

    private int box() {
        return around(0, boxes - 1);
    }

    private int packet() {
        return around(0, Math.max(0, model.count(3) - 1));
    }

    private void due(String call, int got, int want) {
        Due.due("seed " + seed + ": " + call, got, want);
    }

    private void run() {
        if (oneIn(2)) {
            due("set(0, 0)", x.set(0, 0), model.set(0, 0));
        }
        if (oneIn(2)) {
            int detours = between(1, 4);
            due("set(1, " + detours + ")", x.set(1, detours), model.set(1, detours));
        }
        if (oneIn(10)) {
            fillWithPackets();
        }
        int calls = between(20, 120);
        for (int i = 0; i < calls; i++) {
            callSomething();
            if (oneIn(12)) {
                compareAll();
            }
        }
        compareAll();
    }

    private void fillWithPackets() {
        for (int i = 0; i < 45; i++) {
            int from = box();
            int to = box();
            due("send(" + from + ", " + to + ")", x.send(from, to), model.send(from, to));
        }
    }

    private void callSomething() {
        int kind = random.nextInt(100);
        if (kind < 25) {
            int from = box();
            int to = box();
            due("send(" + from + ", " + to + ")", x.send(from, to), model.send(from, to));
        } else if (kind < 42) {
            int ticks = oneIn(30) ? around(1, 300) : between(1, 4);
            due("ticks(" + ticks + ")", x.ticks(ticks), model.ticks(ticks));
        } else if (kind < 56) {
            int box = box();
            int side = around(0, 3);
            int whole = oneIn(3) ? 1 : around(0, 1);
            due("link(" + box + ", " + side + ", " + whole + ")", x.link(box, side, whole), model.link(box, side, whole));
        } else if (kind < 62) {
            int setting = around(0, 2);
            int value = around(0, setting == 0 ? 1 : 4);
            due("set(" + setting + ", " + value + ")", x.set(setting, value), model.set(setting, value));
        } else if (kind < 64) {
            int columns = around(2, 5);
            due("mesh(" + columns + ", 3)", meshOrLess(columns, true), meshOrLess(columns, false));
        } else if (kind < 76) {
            askWhatIf();
        } else if (kind < 88) {
            useTheText();
        } else {
            goBack();
        }
    }

    /** A new mesh that went through would leave "boxes" wrong; it is undone at once. */
    private int meshOrLess(int columns, boolean real) {
        int answer = real ? x.mesh(columns, 3) : model.mesh(columns, 3);
        if (answer > 0) {
            int left = real ? x.undo() : model.undo();
            return 100 * answer + left;
        }
        return answer;
    }

    private void askWhatIf() {
        int from = box();
        int to = box();
        switch (random.nextInt(6)) {
            case 0:
                due("leastWay(" + from + ", " + to + ")", x.leastWay(from, to), model.leastWay(from, to));
                break;
            case 1:
                due("ways(" + from + ", " + to + ")", x.ways(from, to), model.ways(from, to));
                break;
            case 2:
                if (oneIn(1 + boxes / 8)) {
                    due("pairs()", x.pairs(), model.pairs());
                }
                break;
            case 3:
                if (oneIn(1 + dearness / 250)) {
                    for (int what = 0; what < 3; what++) {
                        due("worstLink(" + what + ")", x.worstLink(what), model.worstLink(what));
                    }
                }
                due("worstLink(-1)", x.worstLink(-1), model.worstLink(-1));
                break;
            case 4:
                int packet = packet();
                due("arrivesIn(" + packet + ")", x.arrivesIn(packet), model.arrivesIn(packet));
                break;
            default:
                int ticks = oneIn(5) ? around(1, 300) : between(1, 20);
                due("arrivedBy(" + ticks + ")", x.arrivedBy(ticks), model.arrivedBy(ticks));
                break;
        }
    }

    private String number() {
        return oneIn(40) ? (oneIn(2) ? "0" : "") + between(0, 999) : String.valueOf(between(0, boxes - 1));
    }

    private String order() {
        switch (random.nextInt(4)) {
            case 0: return "s" + number() + ">" + number();
            case 1: return "b" + number() + "ewns".charAt(between(0, 3));
            case 2: return "m" + number() + "ewns".charAt(between(0, 3));
            default: return "t" + (oneIn(10) ? number() : between(1, 5));
        }
    }

    private void useTheText() {
        if (oneIn(2) && model.count(12) > 0) {
            due("fault()", x.fault(), model.fault());
            due("carryOut()", x.carryOut(), model.carryOut());
            return;
        }
        if (oneIn(4)) {
            due("wipe()", x.wipe(), model.wipe());
            return;
        }
        StringBuilder text = new StringBuilder(order());
        for (int more = between(0, 3); more > 0; more--) {
            text.append(';').append(order());
        }
        if (oneIn(3)) {
            text.setCharAt(random.nextInt(text.length()), "sbmt;>0123456789ewnsx".charAt(between(0, 20)));
        }
        if (oneIn(3)) {
            text.setLength(between(1, text.length()));
        }
        if (model.count(12) > 0 && !oneIn(3)) {
            text.insert(0, ';');
        }
        int start = 0;
        while (start < text.length()) {
            int end = Math.min(text.length(), start + between(1, 8));
            long characters = Due.packed(text.substring(start, end));
            due("put(" + characters + ")", x.put(characters), model.put(characters));
            start = end;
        }
        due("fault()", x.fault(), model.fault());
        long any = random.nextLong() >>> between(0, 63);
        if (oneIn(8)) {
            due("put(" + any + ")", x.put(any), model.put(any));
        }
    }

    private void goBack() {
        int slot = around(0, 1);
        switch (random.nextInt(3)) {
            case 0:
                if (model.count(13) > 1 && model.count(1) == boxes) {
                    undoUnlessTheMeshGoes();
                }
                break;
            case 1:
                due("save(" + slot + ")", x.save(slot), model.save(slot));
                break;
            default:
                due("restore(" + slot + ")", x.restore(slot), model.restore(slot));
                break;
        }
    }

    private void undoUnlessTheMeshGoes() {
        due("undo()", x.undo(), model.undo());
        due("count(1)", x.count(1), model.count(1));
    }

    private void compareAll() {
        for (int what = -1; what <= 17; what++) {
            due("count(" + what + ")", x.count(what), model.count(what));
        }
        for (int packet = 0; packet <= model.count(3); packet++) {
            for (int what = -1; what <= 13; what++) {
                // The model looks for the stuck ones anew for each packet; their number was compared above.
                if (what != 12 || oneIn(4)) {
                    due("ofPacket(" + packet + ", " + what + ")", x.ofPacket(packet, what), model.ofPacket(packet, what));
                }
            }
        }
        for (int box = 0; box <= boxes; box++) {
            for (int what = -1; what <= 11; what++) {
                due("ofBox(" + box + ", " + what + ")", x.ofBox(box, what), model.ofBox(box, what));
            }
        }
        for (int what = -1; what <= 3; what++) {
            due("busiest(" + what + ")", x.busiest(what), model.busiest(what));
        }
    }
}
