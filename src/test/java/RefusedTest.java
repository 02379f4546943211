import java.util.ArrayList;
import java.util.List;
import java.util.function.Consumer;
import java.util.function.ToIntFunction;

/**
 * "A call that returns an error changes nothing": each refused call is made on an object that is like
 * another one, and the two are compared then: what they tell, their pads, their slots and their histories.
 */
public final class RefusedTest {
    private static final int LOW = Integer.MIN_VALUE, HIGH = Integer.MAX_VALUE;

    /** A call that is refused, the state in which it is, and the error. */
    private static final class Refused {
        final String name;
        final Consumer<MeshTurns> ahead;
        final ToIntFunction<MeshTurns> call;
        final int due;

        Refused(String name, Consumer<MeshTurns> ahead, ToIntFunction<MeshTurns> call, int due) {
            this.name = name;
            this.ahead = ahead;
            this.call = call;
            this.due = due;
        }
    }

    private static final List<Refused> ALL = new ArrayList<>();

    public static void main(String[] args) {
        settingUp();
        packets();
        whatThereIs();
        whatIf();
        texts();
        goingBack();
        for (Refused refused : ALL) {
            nothingIsSeen(refused);
            nothingIsKept(refused);
        }
        Due.finish();
    }

    // ---- the states

    private static void asNew(MeshTurns x) {
    }

    /** Packets outside, inside and arrived, broken links, a text with a fault, one slot, five changes to undo. */
    private static void busy(MeshTurns x) {
        x.mesh(5, 4);
        x.set(MeshTurns.RULE, 0);
        x.set(MeshTurns.DETOURS, 1);
        x.link(6, MeshTurns.EAST, 0);
        x.send(6, 7);
        x.send(0, 1);
        x.send(19, 0);
        x.ticks(3);
        x.save(0);
        x.send(3, 4);
        x.send(3, 4);
        x.ticks(1);
        x.link(3, MeshTurns.EAST, 0);
        Due.write(x, "s1>2;t5;b3");
        x.undo();
        x.link(0, MeshTurns.NORTH, 0);
        x.undo();
    }

    private static void withFortyPackets(MeshTurns x) {
        for (int i = 0; i < 40; i++) {
            x.send(i % 16, (i + 5) % 16);
        }
        x.ticks(4);
        x.link(0, MeshTurns.EAST, 0);
    }

    private static void withAFullPad(MeshTurns x) {
        for (int i = 0; i < 10; i++) {
            x.put(Due.packed("s0>1;t2;"));
        }
    }

    private static void withAPadOf75(MeshTurns x) {
        Due.write(x, "t1;t2;t3;t4;t5;t6;t7;t8;t9;t1;t2;t3;t4;t5;t6;t7;t8;t9;t1;t2;t3;t4;t5;t6;b0e");
    }

    private static void withNoWholeLink(MeshTurns x) {
        x.mesh(2, 2);
        x.link(0, MeshTurns.EAST, 0);
        x.link(0, MeshTurns.NORTH, 0);
        x.link(3, MeshTurns.WEST, 0);
        x.link(3, MeshTurns.SOUTH, 0);
    }

    // ---- the calls

    private static void refused(String name, ToIntFunction<MeshTurns> call, int due) {
        ALL.add(new Refused(name + " (new)", RefusedTest::asNew, call, due));
        ALL.add(new Refused(name + " (busy)", RefusedTest::busy, call, due));
    }

    private static void refusedIn(String state, Consumer<MeshTurns> ahead, String name, ToIntFunction<MeshTurns> call, int due) {
        ALL.add(new Refused(name + " (" + state + ")", ahead, call, due));
    }

    private static void settingUp() {
        int bad = MeshTurns.BAD_VALUE;
        for (int setting : new int[] {LOW, -1, 3, HIGH}) {
            refused("set(" + setting + ", 1)", x -> x.set(setting, 1), bad);
        }
        for (int value : new int[] {LOW, -1, 2, HIGH}) {
            refused("set(RULE, " + value + ")", x -> x.set(MeshTurns.RULE, value), bad);
        }
        for (int value : new int[] {LOW, -1, 5, HIGH}) {
            refused("set(DETOURS, " + value + ")", x -> x.set(MeshTurns.DETOURS, value), bad);
        }
        for (int value : new int[] {LOW, 0, 5, HIGH}) {
            refused("set(ROOM, " + value + ")", x -> x.set(MeshTurns.ROOM, value), bad);
        }
        for (int lines : new int[] {LOW, 0, 1, 6, HIGH}) {
            refused("mesh(" + lines + ", 3)", x -> x.mesh(lines, 3), bad);
            refused("mesh(3, " + lines + ")", x -> x.mesh(3, lines), bad);
        }
        refusedIn("busy", RefusedTest::busy, "mesh(3, 3)", x -> x.mesh(3, 3), MeshTurns.NOT_POSSIBLE);
        for (int box : new int[] {LOW, -1, 20, 25, HIGH}) {
            refused("link(" + box + ", 0, 0)", x -> x.link(box, 0, 0), MeshTurns.NO_SUCH);
            refused("link(" + box + ", 9, 9)", x -> x.link(box, 9, 9), MeshTurns.NO_SUCH);
        }
        refusedIn("new", RefusedTest::asNew, "link(16, 1, 0)", x -> x.link(16, 1, 0), MeshTurns.NO_SUCH);
        refused("link(0, WEST, 0)", x -> x.link(0, MeshTurns.WEST, 0), MeshTurns.NO_SUCH);
        refused("link(0, SOUTH, 2)", x -> x.link(0, MeshTurns.SOUTH, 2), MeshTurns.NO_SUCH);
        for (int value : new int[] {LOW, -1, 4, HIGH}) {
            refused("link(6, " + value + ", 0)", x -> x.link(6, value, 0), bad);
            refused("link(6, EAST, " + value + ")", x -> x.link(6, MeshTurns.EAST, value), bad);
        }
        refused("link(6, EAST, 2)", x -> x.link(6, MeshTurns.EAST, 2), bad);
    }

    private static void packets() {
        for (int box : new int[] {LOW, -1, 20, 25, HIGH}) {
            refused("send(" + box + ", 0)", x -> x.send(box, 0), MeshTurns.NO_SUCH);
            refused("send(0, " + box + ")", x -> x.send(0, box), MeshTurns.NO_SUCH);
            refused("send(" + box + ", " + box + ")", x -> x.send(box, box), MeshTurns.NO_SUCH);
        }
        refused("send(3, 3)", x -> x.send(3, 3), MeshTurns.NO_SUCH);
        refusedIn("forty", RefusedTest::withFortyPackets, "send(3, 3)", x -> x.send(3, 3), MeshTurns.NO_SUCH);
        refusedIn("forty", RefusedTest::withFortyPackets, "send(3, 16)", x -> x.send(3, 16), MeshTurns.NO_SUCH);
        refusedIn("forty", RefusedTest::withFortyPackets, "send(2, 3)", x -> x.send(2, 3), MeshTurns.TOO_MANY);
        refusedIn("forty", RefusedTest::withFortyPackets, "send(0, 1)", x -> x.send(0, 1), MeshTurns.TOO_MANY);
        refusedIn("no link", RefusedTest::withNoWholeLink, "send(0, 1)", x -> x.send(0, 1), MeshTurns.NOT_POSSIBLE);
        refusedIn("no link", RefusedTest::withNoWholeLink, "send(3, 0)", x -> x.send(3, 0), MeshTurns.NOT_POSSIBLE);
        for (int ticks : new int[] {LOW, -1, 0, 301, HIGH}) {
            refused("ticks(" + ticks + ")", x -> x.ticks(ticks), MeshTurns.BAD_VALUE);
        }
    }

    private static void whatThereIs() {
        for (int packet : new int[] {LOW, -1, 5, 40, HIGH}) {
            refused("ofPacket(" + packet + ", 0)", x -> x.ofPacket(packet, 0), MeshTurns.NO_SUCH);
            refused("ofPacket(" + packet + ", 13)", x -> x.ofPacket(packet, 13), MeshTurns.NO_SUCH);
        }
        refusedIn("new", RefusedTest::asNew, "ofPacket(0, 0)", x -> x.ofPacket(0, 0), MeshTurns.NO_SUCH);
        for (int what : new int[] {LOW, -1, 13, HIGH}) {
            refusedIn("busy", RefusedTest::busy, "ofPacket(0, " + what + ")", x -> x.ofPacket(0, what), MeshTurns.BAD_VALUE);
        }
        for (int box : new int[] {LOW, -1, 20, 25, HIGH}) {
            refused("ofBox(" + box + ", 0)", x -> x.ofBox(box, 0), MeshTurns.NO_SUCH);
            refused("ofBox(" + box + ", 11)", x -> x.ofBox(box, 11), MeshTurns.NO_SUCH);
        }
        for (int what : new int[] {LOW, -1, 11, HIGH}) {
            refused("ofBox(0, " + what + ")", x -> x.ofBox(0, what), MeshTurns.BAD_VALUE);
        }
        for (int what : new int[] {LOW, -1, 17, HIGH}) {
            refused("count(" + what + ")", x -> x.count(what), MeshTurns.BAD_VALUE);
        }
    }

    private static void whatIf() {
        for (int box : new int[] {LOW, -1, 20, 25, HIGH}) {
            refused("leastWay(" + box + ", 0)", x -> x.leastWay(box, 0), MeshTurns.NO_SUCH);
            refused("leastWay(0, " + box + ")", x -> x.leastWay(0, box), MeshTurns.NO_SUCH);
            refused("leastWay(" + box + ", " + box + ")", x -> x.leastWay(box, box), MeshTurns.NO_SUCH);
            refused("ways(" + box + ", 0)", x -> x.ways(box, 0), MeshTurns.NO_SUCH);
            refused("ways(0, " + box + ")", x -> x.ways(0, box), MeshTurns.NO_SUCH);
            refused("ways(" + box + ", " + box + ")", x -> x.ways(box, box), MeshTurns.NO_SUCH);
        }
        for (int what : new int[] {LOW, -1, 3, HIGH}) {
            refused("worstLink(" + what + ")", x -> x.worstLink(what), MeshTurns.BAD_VALUE);
            refusedIn("no link", RefusedTest::withNoWholeLink, "worstLink(" + what + ")", x -> x.worstLink(what), MeshTurns.BAD_VALUE);
            refused("busiest(" + what + ")", x -> x.busiest(what), MeshTurns.BAD_VALUE);
        }
        for (int packet : new int[] {LOW, -1, 5, 40, HIGH}) {
            refused("arrivesIn(" + packet + ")", x -> x.arrivesIn(packet), MeshTurns.NO_SUCH);
        }
        for (int ticks : new int[] {LOW, -1, 0, 301, HIGH}) {
            refused("arrivedBy(" + ticks + ")", x -> x.arrivedBy(ticks), MeshTurns.BAD_VALUE);
        }
    }

    private static void texts() {
        long[] bad = {0, 32, 127, 255, 't' << 8, (long) 't' << 16 | 't', 1L << 63 | 't', 32 << 8 | 't', Long.MIN_VALUE, -1L};
        for (long characters : bad) {
            refused("put(" + characters + ")", x -> x.put(characters), MeshTurns.BAD_VALUE);
            refusedIn("full pad", RefusedTest::withAFullPad, "put(" + characters + ")", x -> x.put(characters), MeshTurns.BAD_VALUE);
        }
        refusedIn("full pad", RefusedTest::withAFullPad, "put(t)", x -> x.put('t'), MeshTurns.TOO_MANY);
        refusedIn("pad of 75", RefusedTest::withAPadOf75, "put(;t1;t1)", x -> x.put(Due.packed(";t1;t1")), MeshTurns.TOO_MANY);
        refused("carryOut() with a fault", MeshTurns::carryOut, MeshTurns.BAD_TEXT);
        refusedIn("full pad", RefusedTest::withAFullPad, "carryOut() with an end that is none", MeshTurns::carryOut, MeshTurns.BAD_TEXT);
    }

    private static void goingBack() {
        refusedIn("new", RefusedTest::asNew, "undo()", MeshTurns::undo, MeshTurns.NOT_POSSIBLE);
        refusedIn("full pad", RefusedTest::withAFullPad, "undo()", MeshTurns::undo, MeshTurns.NOT_POSSIBLE);
        for (int slot : new int[] {LOW, -1, 2, HIGH}) {
            refused("save(" + slot + ")", x -> x.save(slot), MeshTurns.BAD_VALUE);
            refused("restore(" + slot + ")", x -> x.restore(slot), MeshTurns.BAD_VALUE);
        }
        refusedIn("new", RefusedTest::asNew, "restore(0)", x -> x.restore(0), MeshTurns.NOT_POSSIBLE);
        refused("restore(1)", x -> x.restore(1), MeshTurns.NOT_POSSIBLE);
    }

    // ---- the comparison

    private static MeshTurns after(Refused refused, boolean isMade) {
        MeshTurns x = new MeshTurns();
        refused.ahead.accept(x);
        if (isMade) {
            Due.due(refused.name, refused.call.applyAsInt(x), refused.due);
        }
        return x;
    }

    private static void same(String when, List<Integer> got, List<Integer> want) {
        Due.due(when + ": how many answers", got.size(), want.size());
        for (int i = 0; i < want.size(); i++) {
            Due.due(when + ": answer " + i, got.get(i), want.get(i));
        }
    }

    private static void nothingIsSeen(Refused refused) {
        same(refused.name + ", seen", look(after(refused, true)), look(after(refused, false)));
    }

    private static void nothingIsKept(Refused refused) {
        same(refused.name + ", kept", goOn(after(refused, true)), goOn(after(refused, false)));
    }

    private static void counts(MeshTurns x, List<Integer> seen) {
        for (int what = 0; what <= 16; what++) {
            seen.add(x.count(what));
        }
    }

    /** Every number there is; of forty packets only some, because an object is used for 512 calls. */
    private static List<Integer> look(MeshTurns x) {
        List<Integer> seen = new ArrayList<>();
        counts(x, seen);
        boolean all = x.count(3) <= 10;
        for (int packet = 0; packet < x.count(3); packet++) {
            for (int what = 0; what <= 12; what++) {
                if (all || what == 3 || what == 4 || what == 6) {
                    seen.add(x.ofPacket(packet, what));
                }
            }
        }
        for (int box = 0; box < x.count(1); box++) {
            for (int what = 0; what <= 10; what++) {
                seen.add(x.ofBox(box, what));
            }
        }
        seen.add(x.fault());
        return seen;
    }

    /** What was kept in the pad, the history and the slots comes out. */
    private static List<Integer> goOn(MeshTurns x) {
        List<Integer> seen = new ArrayList<>();
        seen.add(x.arrivedBy(300));
        seen.add(x.put('e'));
        seen.add(x.fault());
        seen.add(x.carryOut());
        counts(x, seen);
        seen.add(x.wipe());
        for (int i = 0; i < 8; i++) {
            seen.add(x.undo());
            counts(x, seen);
        }
        for (int slot = 0; slot < 2; slot++) {
            seen.add(x.restore(slot));
            counts(x, seen);
        }
        seen.add(x.pairs());
        return seen;
    }
}
