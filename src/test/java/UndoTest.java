/** Promises 21 to 23: undo, save, restore. */
public final class UndoTest {
    public static void main(String[] args) {
        undo();
        sixStates();
        everyChangeIsUndone();
        undoLeavesThePadAndTheSlots();
        undoneRoutes();
        aPacketAfterAnUndoneOne();
        everyNumberOfAPacket();
        otherPacketsOfTheSameNumbers();
        save();
        restore();
        restoreIsAChange();
        slotsAreKept();
        movesOfEveryBox();
        whatIsNoChange();
        exactlySixOrSeven();
        changesWithoutADifference();
        slotsAreApart();
        theHistoryAndTheSlotsStay();
        fiveHundredAndTwelveCalls();
        Due.finish();
    }

    private static void undo() {
        MeshTurns x = new MeshTurns();
        Due.due("nothing to undo", x.undo(), MeshTurns.NOT_POSSIBLE);
        x.send(0, 15);
        x.ticks(3);
        Due.due("undo the ticks", x.undo(), 1);
        Due.due("the tick", x.count(0), 0);
        Due.due("the packet is outside", x.ofPacket(0, 2), MeshTurns.OUTSIDE);
        Due.due("no moves", x.count(7), 0);
        Due.due("no moves from the box", x.ofBox(0, 7), 0);
        Due.due("undo the send", x.undo(), 0);
        Due.due("no packet", x.count(3), 0);
        Due.due("no more to undo", x.undo(), MeshTurns.NOT_POSSIBLE);
    }

    private static void sixStates() {
        MeshTurns x = new MeshTurns();
        for (int i = 1; i <= 9; i++) {
            x.ticks(1);
            Due.due("changes to undo", x.count(13), Math.min(i, 6));
        }
        for (int i = 5; i >= 0; i--) {
            Due.due("undo", x.undo(), i);
            Due.due("the tick", x.count(0), 3 + i);
        }
        Due.due("the oldest were dropped", x.undo(), MeshTurns.NOT_POSSIBLE);
        Due.due("the tick stays", x.count(0), 3);
        // The same once more, with states that were used before.
        for (int i = 1; i <= 8; i++) {
            x.ticks(10);
        }
        Due.due("undo", x.undo(), 5);
        Due.due("the tick", x.count(0), 73);
        x.ticks(1);
        Due.due("six again", x.count(13), 6);
        Due.due("undo", x.undo(), 5);
        Due.due("undo", x.undo(), 4);
        Due.due("the tick", x.count(0), 63);
    }

    private static void everyChangeIsUndone() {
        MeshTurns x = new MeshTurns();
        x.mesh(3, 3);
        Due.due("undo mesh", x.undo(), 0);
        Due.due("16 boxes", x.count(1), 16);
        x.set(MeshTurns.DETOURS, 3);
        Due.due("undo set", x.undo(), 0);
        Due.due("no detours", x.count(15), 0);
        x.link(0, MeshTurns.NORTH, 0);
        Due.due("undo link", x.undo(), 0);
        Due.due("no broken link", x.count(11), 0);
        x.save(1);
        x.restore(1);
        Due.due("undo restore", x.undo(), 0);
        Due.write(x, "t5");
        x.carryOut();
        Due.due("undo carryOut", x.undo(), 0);
        Due.due("the tick", x.count(0), 0);
    }

    private static void undoLeavesThePadAndTheSlots() {
        MeshTurns x = new MeshTurns();
        x.ticks(5);
        x.save(0);
        Due.write(x, "t1;t1");
        Due.due("undo", x.undo(), 0);
        Due.due("the pad", x.count(12), 5);
        Due.due("the slot", x.restore(0), 5);
    }

    private static void undoneRoutes() {
        MeshTurns x = new MeshTurns();
        x.link(0, MeshTurns.EAST, 0);
        Due.due("no way", x.leastWay(0, 1), MeshTurns.NONE);
        x.undo();
        Due.due("a way", x.leastWay(0, 1), 1);
        x.set(MeshTurns.RULE, 0);
        Due.due("six ways", x.ways(0, 10), 6);
        x.undo();
        Due.due("one way by the rule", x.ways(0, 10), 1);
        x.mesh(5, 5);
        x.undo();
        Due.due("boxes 0 and 4 are neighbours again", x.leastWay(0, 4), 1);
    }

    private static void aPacketAfterAnUndoneOne() {
        MeshTurns x = new MeshTurns();
        x.set(MeshTurns.RULE, 0);
        x.send(5, 0);
        x.ticks(3);
        x.undo();
        x.undo();
        Due.due("send", x.send(1, 2), 0);
        int[] due = {1, 2, 0, 1, 0, 0, 0, 0, MeshTurns.NONE, 0, 1, 0, 0};
        for (int what = 0; what < due.length; what++) {
            Due.due("ofPacket(0, " + what + ")", x.ofPacket(0, what), due[what]);
        }
    }

    /** Two packets, one arrived with a detour and one on its way, and the same after an undo and a restore. */
    private static void everyNumberOfAPacket() {
        MeshTurns x = new MeshTurns();
        x.mesh(3, 3);
        x.set(MeshTurns.RULE, 0);
        x.set(MeshTurns.DETOURS, 1);
        x.ticks(2);
        x.link(0, MeshTurns.EAST, 0);
        x.send(0, 1);
        x.send(0, 7);
        x.ticks(4);
        int[][] due = {
            {0, 1, 2, 1, 3, 1, 0, 2, 5, 1, 0, MeshTurns.NONE, 0},
            {0, 7, 1, 4, 2, 0, 1, 2, MeshTurns.NONE, 1, 1, MeshTurns.NORTH, 0}};
        packetsAre("at first", x, due);
        x.save(0);
        x.ticks(50);
        x.undo();
        packetsAre("after an undo", x, due);
        x.send(8, 0);
        x.send(7, 0);
        x.ticks(50);
        x.restore(0);
        packetsAre("after a restore", x, due);
        x.undo();
        x.undo();
        x.undo();
        x.undo();
        packetsAre("after more undos", x, due);
    }

    /** What a slot and the history hold of a packet replaces another one of the same number. */
    private static void otherPacketsOfTheSameNumbers() {
        MeshTurns x = new MeshTurns();
        x.mesh(3, 3);
        x.set(MeshTurns.RULE, 0);
        x.set(MeshTurns.DETOURS, 1);
        x.link(0, MeshTurns.EAST, 0);
        x.send(0, 1);
        x.send(0, 7);
        x.ticks(4);
        int[][] due = {
            {0, 1, 2, 1, 3, 1, 0, 0, 3, 1, 0, MeshTurns.NONE, 0},
            {0, 7, 1, 4, 2, 0, 1, 0, MeshTurns.NONE, 1, 1, MeshTurns.NORTH, 0}};
        packetsAre("at first", x, due);
        x.save(0);
        for (int i = 0; i < 3; i++) {
            x.undo();
        }
        Due.due("no packets", x.count(3), 0);
        x.ticks(1);
        x.send(8, 7);
        x.send(1, 8);
        x.ticks(2);
        int[][] dueThen = {
            {8, 7, 2, 7, 1, 0, 0, 1, 2, 1, 0, MeshTurns.NONE, 0},
            {1, 8, 1, 2, 1, 0, 0, 1, MeshTurns.NONE, 0, 2, MeshTurns.NORTH, 0}};
        packetsAre("others", x, dueThen);
        x.restore(0);
        packetsAre("restored", x, due);
        x.undo();
        packetsAre("others again", x, dueThen);
    }

    private static void packetsAre(String when, MeshTurns x, int[][] due) {
        Due.due(when + ": packets", x.count(3), due.length);
        for (int packet = 0; packet < due.length; packet++) {
            for (int what = 0; what < due[packet].length; what++) {
                Due.due(when + ": ofPacket(" + packet + ", " + what + ")", x.ofPacket(packet, what), due[packet][what]);
            }
        }
    }

    private static void save() {
        MeshTurns x = new MeshTurns();
        Due.due("save(-1)", x.save(-1), MeshTurns.BAD_VALUE);
        Due.due("save(2)", x.save(2), MeshTurns.BAD_VALUE);
        Due.due("save(MAX)", x.save(Integer.MAX_VALUE), MeshTurns.BAD_VALUE);
        x.ticks(4);
        Due.due("save(0)", x.save(0), 4);
        Due.due("save(1)", x.save(1), 4);
        Due.due("save is no change", x.count(13), 1);
        x.ticks(4);
        Due.due("save over it", x.save(0), 8);
        Due.due("restore(0)", x.restore(0), 8);
        Due.due("restore(1)", x.restore(1), 4);
    }

    private static void restore() {
        MeshTurns x = new MeshTurns();
        Due.due("restore(-1)", x.restore(-1), MeshTurns.BAD_VALUE);
        Due.due("restore(2)", x.restore(2), MeshTurns.BAD_VALUE);
        Due.due("restore(0)", x.restore(0), MeshTurns.NOT_POSSIBLE);
        Due.due("restore(1)", x.restore(1), MeshTurns.NOT_POSSIBLE);
        Due.due("errors record nothing", x.count(13), 0);
        x.mesh(3, 4);
        x.set(MeshTurns.RULE, 0);
        x.set(MeshTurns.DETOURS, 2);
        x.set(MeshTurns.ROOM, 3);
        x.link(1, MeshTurns.NORTH, 0);
        x.send(0, 11);
        x.ticks(2);
        x.save(1);
        Due.due("the other slot is empty", x.restore(0), MeshTurns.NOT_POSSIBLE);
        x.set(MeshTurns.RULE, 1);
        x.set(MeshTurns.DETOURS, 0);
        x.set(MeshTurns.ROOM, 1);
        x.link(1, MeshTurns.NORTH, 1);
        x.link(1, MeshTurns.EAST, 0);
        x.send(0, 3);
        x.ticks(20);
        Due.write(x, "t1");
        Due.due("restore(1)", x.restore(1), 2);
        int[] due = {2, 12, 3, 1, 0, 1, 0, 1, 0, 0, 0, 1, 2, 6, 0, 2, 3};
        for (int what = 0; what < due.length; what++) {
            Due.due("restored: count(" + what + ")", x.count(what), due[what]);
        }
        Due.due("the packet is where it was", x.ofPacket(0, 3), 1);
        Due.due("the moves are as they were", x.ofBox(0, 7), 1);
        Due.due("the link is broken", x.ofBox(1, 5), 0);
        Due.due("the other one is whole", x.ofBox(1, 3), 1);
        // From box 1 to box 11, four moves: by boxes 0 and 3 there would be two more.
        Due.due("the ways are as they were", x.ofPacket(0, 10), 4);
    }

    private static void restoreIsAChange() {
        MeshTurns x = new MeshTurns();
        x.save(0);
        x.ticks(9);
        Due.due("restore", x.restore(0), 0);
        Due.due("two changes", x.count(13), 2);
        Due.due("undo the restore", x.undo(), 1);
        Due.due("the tick", x.count(0), 9);
        Due.due("restore once more", x.restore(0), 0);
    }

    /** What happens after a restore does not change what the slot holds. */
    private static void slotsAreKept() {
        MeshTurns x = new MeshTurns();
        x.send(0, 3);
        x.save(0);
        x.restore(0);
        x.ticks(10);
        x.link(5, MeshTurns.EAST, 0);
        x.set(MeshTurns.ROOM, 4);
        Due.due("restore", x.restore(0), 0);
        Due.due("no broken link", x.count(11), 0);
        Due.due("the room", x.count(16), 1);
        Due.due("the packet is outside", x.ofPacket(0, 2), MeshTurns.OUTSIDE);
        Due.due("it waits for nobody", x.arrivesIn(0), 4);
    }

    private static void movesAre(String when, MeshTurns x, int due) {
        for (int box = 0; box < 25; box++) {
            boolean isOnTheWay = box > 20;
            Due.due(when + ": moves to the west of " + box, x.ofBox(box, 8), isOnTheWay ? due : 0);
        }
    }

    private static void movesOfEveryBox() {
        MeshTurns x = new MeshTurns();
        x.mesh(5, 5);
        x.send(24, 20);
        x.send(24, 20);
        x.ticks(9);
        movesAre("at first", x, 2);
        x.save(1);
        x.undo();
        movesAre("undone", x, 0);
        x.restore(1);
        movesAre("restored", x, 2);
        x.undo();
        movesAre("the restore undone", x, 0);
        x.ticks(2);
        Due.due("one move from box 24", x.ofBox(24, 8), 1);
        Due.due("none from box 23 yet", x.ofBox(23, 8), 0);
        x.restore(1);
        movesAre("restored again", x, 2);
    }

    private static void whatIsNoChange() {
        MeshTurns x = new MeshTurns();
        x.send(0, 5);
        x.ticks(2);
        x.ofPacket(0, 10);
        x.ofBox(0, 0);
        x.count(10);
        x.leastWay(0, 5);
        x.ways(0, 5);
        x.pairs();
        x.worstLink(0);
        x.busiest(0);
        x.arrivesIn(0);
        x.arrivedBy(300);
        x.put('t');
        x.fault();
        x.carryOut();
        x.wipe();
        x.save(0);
        Due.due("two changes", x.count(13), 2);
        Due.due("undo is none", x.undo(), 1);
        Due.due("undo is none", x.undo(), 0);
        Due.due("undo is not undone", x.undo(), MeshTurns.NOT_POSSIBLE);
        Due.due("nothing comes back", x.count(0), 0);
    }

    private static void exactlySixOrSeven() {
        MeshTurns x = new MeshTurns();
        for (int i = 1; i <= 6; i++) {
            x.ticks(1);
        }
        for (int i = 5; i >= 0; i--) {
            Due.due("undo one of six", x.undo(), i);
        }
        Due.due("the very first state", x.count(0), 0);
        for (int i = 1; i <= 7; i++) {
            x.ticks(1);
        }
        Due.due("six are kept", x.count(13), 6);
        for (int i = 5; i >= 0; i--) {
            Due.due("undo one of seven", x.undo(), i);
        }
        Due.due("the state behind the first change", x.count(0), 1);
        Due.due("the one ahead of it was dropped", x.undo(), MeshTurns.NOT_POSSIBLE);
    }

    private static void changesWithoutADifference() {
        MeshTurns x = new MeshTurns();
        x.set(MeshTurns.RULE, 1);
        x.mesh(4, 4);
        x.link(0, MeshTurns.EAST, 1);
        x.save(0);
        x.restore(0);
        Due.write(x, "t0");
        Due.due("no order", x.carryOut(), 0);
        Due.due("five changes", x.count(13), 5);
        x.ticks(1);
        for (int i = 5; i >= 0; i--) {
            Due.due("undo", x.undo(), i);
            Due.due("the tick", x.count(0), 0);
        }
    }

    private static void slotsAreApart() {
        MeshTurns x = new MeshTurns();
        x.ticks(1);
        x.save(0);
        x.ticks(1);
        x.save(1);
        x.ticks(1);
        for (int i = 0; i < 3; i++) {
            Due.due("slot 0", x.restore(0), 1);
            Due.due("slot 1", x.restore(1), 2);
        }
        x.save(0);
        Due.due("slot 0 is as slot 1", x.restore(0), 2);
        x.ticks(5);
        x.save(1);
        Due.due("slot 0 is kept", x.restore(0), 2);
        Due.due("slot 1 is overwritten", x.restore(1), 7);
    }

    /** Neither undo nor restore changes the pad, the other slot, or the rest of the history. */
    private static void theHistoryAndTheSlotsStay() {
        MeshTurns x = new MeshTurns();
        x.save(1);
        x.ticks(1);
        x.ticks(2);
        x.save(0);
        Due.write(x, "t5;");
        Due.due("restore", x.restore(1), 0);
        Due.due("the pad", x.count(12), 3);
        Due.due("one change more", x.count(13), 3);
        Due.due("undo the restore", x.undo(), 2);
        Due.due("the tick", x.count(0), 3);
        x.save(1);
        Due.due("undo", x.undo(), 1);
        Due.due("the tick", x.count(0), 1);
        Due.due("undo", x.undo(), 0);
        Due.due("the tick", x.count(0), 0);
        Due.due("the pad", x.count(12), 3);
        Due.due("what was saved is not undone", x.restore(0), 3);
        Due.due("nor in the other slot", x.restore(1), 3);
        x.undo();
        x.undo();
        Due.due("the tick", x.count(0), 0);
        Due.due("the slot is as it was", x.restore(1), 3);
    }

    private static void fiveHundredAndTwelveCalls() {
        MeshTurns x = new MeshTurns();
        for (int call = 1; call <= 511; call++) {
            Due.due("call " + call, x.ticks(300), 300 * call);
        }
        Due.due("call 512", x.undo(), 5);
    }
}
