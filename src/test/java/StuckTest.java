/** What the terms 'Packets' and 'Stuck packets' say, at its edges. */
public final class StuckTest {
    public static void main(String[] args) {
        asManyComeInsideAsThereIsRoom();
        asManyMoveInAsThereIsRoom();
        lessRoomThanThereAreInside();
        theBoxWhereItGoesIsNeverFull();
        arrivedPacketsTakeNoRoom();
        outsideTheyTakeNoRoom();
        oneTickForEachStep();
        noDirectionIsStuck();
        oneOfTwoDirectionsIsFree();
        aFullBoxWithOneFreePacket();
        fortyAreStuck();
        waitingIsNotStuck();
        theGreatestSet();
        Due.finish();
    }

    private static void asManyComeInsideAsThereIsRoom() {
        for (int room = 1; room <= 4; room++) {
            MeshTurns x = new MeshTurns();
            x.set(MeshTurns.ROOM, room);
            for (int i = 0; i < 5; i++) {
                x.send(5, 7);
            }
            x.ticks(1);
            String at = "room " + room + ": ";
            Due.due(at + "inside", x.ofBox(5, 0), room);
            Due.due(at + "outside", x.ofBox(5, 1), 5 - room);
            Due.due(at + "waits", x.count(9), 5 - room);
            for (int packet = 0; packet < 5; packet++) {
                Due.due(at + "packet " + packet, x.ofPacket(packet, 2), packet < room ? MeshTurns.INSIDE : MeshTurns.OUTSIDE);
                Due.due(at + "waits of packet " + packet, x.ofPacket(packet, 6), packet < room ? 0 : 1);
            }
        }
    }

    /** A mesh with so many packets in box 6 that can't move. */
    private static MeshTurns blocked(int room, int packets) {
        MeshTurns x = new MeshTurns();
        x.set(MeshTurns.ROOM, room);
        for (int i = 0; i < packets; i++) {
            x.send(6, 10);
        }
        x.link(6, MeshTurns.NORTH, 0);
        return x;
    }

    private static void asManyMoveInAsThereIsRoom() {
        for (int room = 1; room <= 4; room++) {
            for (int inside = 0; inside <= room; inside++) {
                MeshTurns x = blocked(room, inside);
                x.send(5, 7);
                x.ticks(1);
                String at = "room " + room + ", inside " + inside + ": ";
                Due.due(at + "inside of box 6", x.ofBox(6, 0), inside);
                Due.due(at + "stuck", x.ofPacket(inside, 12), inside < room ? 0 : 1);
                Due.due(at + "stuck packets", x.count(10), inside < room ? inside : inside + 1);
                x.ticks(1);
                Due.due(at + "box", x.ofPacket(inside, 3), inside < room ? 6 : 5);
                Due.due(at + "waits", x.ofPacket(inside, 6), inside < room ? 0 : 1);
            }
        }
    }

    private static void lessRoomThanThereAreInside() {
        MeshTurns x = blocked(4, 3);
        x.send(5, 7);
        x.send(6, 7);
        x.send(6, 7);
        x.ticks(1);
        Due.due("four are inside of box 6", x.ofBox(6, 0), 4);
        Due.due("one more is outside", x.ofBox(6, 1), 1);
        for (int room = 1; room <= 4; room++) {
            x.set(MeshTurns.ROOM, room);
            Due.due("room " + room + ": they stay", x.ofBox(6, 0), 4);
            Due.due("room " + room + ": the free one makes packet 3 free", x.ofPacket(3, 12), 0);
        }
        x.set(MeshTurns.ROOM, 1);
        x.ticks(1);
        Due.due("one has arrived", x.count(6), 1);
        Due.due("three are too many for room 1", x.ofPacket(5, 2), MeshTurns.OUTSIDE);
        Due.due("packet 3 waited", x.ofPacket(3, 3), 5);
        Due.due("now it is stuck", x.ofPacket(3, 12), 1);
        x.set(MeshTurns.ROOM, 3);
        Due.due("three fill room 3", x.ofPacket(3, 12), 1);
        x.set(MeshTurns.ROOM, 4);
        Due.due("three leave one of room 4", x.ofPacket(3, 12), 0);
    }

    private static void theBoxWhereItGoesIsNeverFull() {
        MeshTurns x = blocked(1, 1);
        x.send(5, 6);
        x.ticks(1);
        Due.due("box 6 is full", x.ofBox(6, 0), 1);
        Due.due("its packet is stuck", x.ofPacket(0, 12), 1);
        Due.due("the one that goes there is not", x.ofPacket(1, 12), 0);
        Due.due("one is stuck", x.count(10), 1);
        x.ticks(1);
        Due.due("it arrived", x.ofPacket(1, 2), MeshTurns.ARRIVED);
        Due.due("still one is inside", x.ofBox(6, 0), 1);
        Due.due("one has arrived there", x.ofBox(6, 2), 1);
    }

    private static void arrivedPacketsTakeNoRoom() {
        MeshTurns x = new MeshTurns();
        x.send(5, 6);
        x.ticks(2);
        x.send(5, 7);
        x.send(6, 10);
        x.ticks(1);
        Due.due("inside of the box where one arrived", x.ofPacket(2, 2), MeshTurns.INSIDE);
        x.ticks(1);
        Due.due("packet 1 found it full by packet 2", x.ofPacket(1, 3), 5);
        x.ticks(1);
        Due.due("then it moved through it", x.ofPacket(1, 3), 6);
    }

    private static void outsideTheyTakeNoRoom() {
        MeshTurns x = new MeshTurns();
        x.send(5, 7);
        x.ticks(1);
        x.send(6, 10);
        x.ticks(1);
        // Packet 0 is ahead in the order: it moves into box 6 while packet 1 is outside of it.
        Due.due("packet 0 moved in", x.ofPacket(0, 3), 6);
        Due.due("packet 1 is still outside", x.ofPacket(1, 2), MeshTurns.OUTSIDE);
        Due.due("packet 1 waited", x.ofPacket(1, 6), 1);
    }

    private static void oneTickForEachStep() {
        MeshTurns x = new MeshTurns();
        x.send(0, 1);
        Due.due("the first tick", x.ticks(1), 1);
        Due.due("it came inside, and did nothing more", x.ofPacket(0, 3), 0);
        Due.due("no move", x.ofPacket(0, 4), 0);
        Due.due("no wait", x.ofPacket(0, 6), 0);
        Due.due("the second tick", x.ticks(1), 2);
        Due.due("it arrived in tick 1", x.ofPacket(0, 8), 1);
    }

    private static void noDirectionIsStuck() {
        MeshTurns x = blocked(1, 1);
        Due.due("outside it is not stuck", x.count(10), 0);
        x.ticks(1);
        Due.due("no way length", x.ofPacket(0, 10), MeshTurns.NONE);
        Due.due("no direction", x.ofPacket(0, 11), MeshTurns.NONE);
        Due.due("stuck", x.ofPacket(0, 12), 1);
        x.set(MeshTurns.DETOURS, 1);
        Due.due("east, north and west", x.ofPacket(0, 10), 3);
        Due.due("not stuck", x.ofPacket(0, 12), 0);
    }

    /** From box 5 to box 10 by box 6, which is blocked, or by box 9. */
    private static void oneOfTwoDirectionsIsFree() {
        MeshTurns x = new MeshTurns();
        x.set(MeshTurns.RULE, 0);
        x.send(6, 7);
        x.send(5, 10);
        x.ticks(1);
        x.link(6, MeshTurns.EAST, 0);
        Due.due("packet 0 is stuck", x.ofPacket(0, 12), 1);
        Due.due("packet 1 has another direction", x.ofPacket(1, 12), 0);
        x.send(9, 13);
        x.ticks(1);
        Due.due("it took it", x.ofPacket(1, 3), 9);
        MeshTurns y = new MeshTurns();
        y.set(MeshTurns.RULE, 0);
        y.send(5, 10);
        y.send(6, 7);
        y.send(9, 13);
        y.ticks(1);
        y.link(6, MeshTurns.EAST, 0);
        Due.due("one box is full for ever, the other one for now", y.ofPacket(0, 12), 0);
        y.link(9, MeshTurns.NORTH, 0);
        Due.due("both are full for ever", y.ofPacket(0, 12), 1);
        Due.due("all three are stuck", y.count(10), 3);
    }

    /** Room 4: box 6 is full with three stuck packets and one more. */
    private static void aFullBoxWithOneFreePacket() {
        MeshTurns x = blocked(4, 3);
        x.send(5, 7);
        x.send(6, 7);
        x.ticks(1);
        Due.due("stuck packets", x.count(10), 3);
        Due.due("packet 3 is free by packet 4", x.ofPacket(3, 12), 0);
        x.link(6, MeshTurns.EAST, 0);
        Due.due("all are stuck", x.count(10), 5);
    }

    private static void fortyAreStuck() {
        MeshTurns x = new MeshTurns();
        x.set(MeshTurns.ROOM, 4);
        int[] boxes = {4, 5, 6, 8, 9, 10, 12, 13};
        for (int i = 0; i < 4; i++) {
            x.send(0, 2);
            x.send(1, 5);
            for (int box : boxes) {
                x.send(box, box + 1);
            }
        }
        x.ticks(1);
        Due.due("none is stuck", x.count(10), 0);
        x.link(1, MeshTurns.NORTH, 0);
        for (int box : boxes) {
            x.link(box, MeshTurns.EAST, 0);
        }
        // Those in box 0 are stuck behind those in box 1, the others have no way.
        Due.due("all are inside", x.count(5), 40);
        Due.due("all are stuck", x.count(10), 40);
        Due.due("the first one is", x.ofPacket(0, 12), 1);
        Due.due("the last one is", x.ofPacket(39, 12), 1);
        x.ticks(300);
        Due.due("none has moved", x.count(7), 0);
        Due.due("all have waited", x.count(9), 40 * 300);
        Due.due("none ever arrives", x.arrivedBy(300), 0);
        x.link(1, MeshTurns.NORTH, 1);
        Due.due("eight are free", x.count(10), 32);
        x.ticks(10);
        Due.due("eight have arrived", x.count(6), 8);
    }

    private static void waitingIsNotStuck() {
        MeshTurns x = new MeshTurns();
        x.send(0, 3);
        x.send(1, 3);
        x.ticks(2);
        Due.due("packet 0 waited", x.ofPacket(0, 6), 1);
        Due.due("it is not stuck", x.ofPacket(0, 12), 0);
        Due.due("none is", x.count(10), 0);
    }

    /** Two that wait for each other are stuck, though it would hold as well that they are not. */
    private static void theGreatestSet() {
        MeshTurns x = new MeshTurns();
        x.send(1, 3);
        x.send(2, 0);
        x.send(5, 7);
        x.send(6, 4);
        x.ticks(1);
        Due.due("two circles", x.count(10), 4);
        x.set(MeshTurns.ROOM, 2);
        Due.due("none with more room", x.count(10), 0);
        x.undo();
        x.link(5, MeshTurns.EAST, 0);
        Due.due("without their link they have no way at all", x.count(10), 4);
    }
}
