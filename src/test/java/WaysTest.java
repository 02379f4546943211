/** What the terms 'Mesh' and 'Ways' say, at its edges. */
public final class WaysTest {
    private static final int[] BACK = {MeshTurns.WEST, MeshTurns.EAST, MeshTurns.SOUTH, MeshTurns.NORTH};

    public static void main(String[] args) {
        everyMeshHasItsEdges();
        everyDistanceOfEveryMesh();
        noStepFromOneRowToTheNext();
        eachOtherDirectionEndsTheEast();
        eastAgainAndAgain();
        turnedAfterEachDirection();
        aDetourIsSeenByColumnsAndRows();
        noDetourIntoADeadEnd();
        otherPacketsDoNotMatter();
        ofTwoAlikeTheLowestDirection();
        fromTheFirstToTheFourthDirection();
        noDirectionThatIsNotPossible();
        Due.finish();
    }

    /** The boxes on the four sides of a box, -1 where there is none. */
    private static int[] beside(int box, int columns, int rows) {
        int x = box % columns;
        int y = box / columns;
        return new int[] {
            x + 1 < columns ? box + 1 : -1, x > 0 ? box - 1 : -1, y + 1 < rows ? box + columns : -1, y > 0 ? box - columns : -1};
    }

    private static void everyMeshHasItsEdges() {
        for (int columns = 2; columns <= 5; columns++) {
            for (int rows = 2; rows <= 5; rows++) {
                for (int box = 0; box < columns * rows; box++) {
                    MeshTurns x = new MeshTurns();
                    x.mesh(columns, rows);
                    int[] beside = beside(box, columns, rows);
                    for (int side = 0; side < 4; side++) {
                        String at = columns + " * " + rows + ", box " + box + ", side " + side;
                        if (beside[side] < 0) {
                            noLinkAt(at, x, box, side);
                        } else {
                            oneLinkAt(at, x, box, side, beside[side]);
                        }
                    }
                    Due.due("all links are whole again", x.count(11), 0);
                }
            }
        }
    }

    private static void noLinkAt(String at, MeshTurns x, int box, int side) {
        Due.due(at + ": no link", x.ofBox(box, 3 + side), MeshTurns.NONE);
        Due.due(at + ": none to break", x.link(box, side, 0), MeshTurns.NO_SUCH);
        Due.due(at + ": none to mend", x.link(box, side, 1), MeshTurns.NO_SUCH);
        Due.due(at + ": no moves to there", x.ofBox(box, 7 + side), 0);
    }

    private static void oneLinkAt(String at, MeshTurns x, int box, int side, int other) {
        Due.due(at + ": whole at first", x.ofBox(box, 3 + side), 1);
        Due.due(at + ": one move", x.leastWay(box, other), 1);
        Due.due(at + ": it was whole", x.link(box, side, 0), 1);
        Due.due(at + ": broken in both directions", x.ofBox(other, 3 + BACK[side]), 0);
        Due.due(at + ": no way", x.leastWay(box, other), MeshTurns.NONE);
        Due.due(at + ": no way back", x.leastWay(other, box), MeshTurns.NONE);
        Due.due(at + ": one broken link", x.count(11), 1);
        Due.due(at + ": mended from the other box", x.link(other, BACK[side], 1), 0);
        Due.due(at + ": whole", x.ofBox(box, 3 + side), 1);
    }

    private static void everyDistanceOfEveryMesh() {
        for (int columns = 2; columns <= 5; columns++) {
            for (int rows = 2; rows <= 5; rows++) {
                for (int from = 0; from < columns * rows; from++) {
                    MeshTurns x = new MeshTurns();
                    x.mesh(columns, rows);
                    for (int to = 0; to < columns * rows; to++) {
                        int across = Math.abs(from % columns - to % columns);
                        int along = Math.abs(from / columns - to / columns);
                        Due.due(columns + " * " + rows + ": from " + from + " to " + to, x.leastWay(from, to), across + along);
                    }
                }
            }
        }
    }

    private static void noStepFromOneRowToTheNext() {
        MeshTurns x = new MeshTurns();
        Due.due("from the end of a row to the next one", x.leastWay(3, 4), 4);
        Due.due("and back", x.leastWay(4, 3), 4);
        Due.due("from the highest row to the lowest one", x.leastWay(12, 0), 3);
        x.send(3, 4);
        Due.due("to the west", x.ofPacket(0, 11), MeshTurns.WEST);
        x.ticks(5);
        Due.due("four moves", x.ofPacket(0, 4), 4);
        Due.due("arrived", x.ofPacket(0, 3), 4);
        Due.due("none of them to the east", x.ofBox(3, 7), 0);
    }

    /** By the rule no move to the east comes behind one to the west, the north or the south. */
    private static void eachOtherDirectionEndsTheEast() {
        MeshTurns west = new MeshTurns();
        west.mesh(3, 2);
        west.set(MeshTurns.DETOURS, 1);
        // From box 1 to box 4: by box 0, or by box 2, whose link to the north is broken.
        west.link(1, MeshTurns.NORTH, 0);
        Due.due("by the east", west.leastWay(1, 4), 3);
        Due.due("one way by the rule", west.ways(1, 4), 1);
        west.link(2, MeshTurns.NORTH, 0);
        Due.due("west, north and east", west.leastWay(1, 4), MeshTurns.NONE);
        west.set(MeshTurns.RULE, 0);
        Due.due("west, north and east without the rule", west.leastWay(1, 4), 3);
        MeshTurns north = new MeshTurns();
        north.mesh(2, 2);
        north.link(0, MeshTurns.EAST, 0);
        Due.due("north and east", north.leastWay(0, 3), MeshTurns.NONE);
        north.set(MeshTurns.RULE, 0);
        Due.due("north and east without the rule", north.leastWay(0, 3), 2);
        MeshTurns south = new MeshTurns();
        south.mesh(2, 2);
        south.link(2, MeshTurns.EAST, 0);
        Due.due("south and east", south.leastWay(2, 1), MeshTurns.NONE);
        south.set(MeshTurns.RULE, 0);
        Due.due("south and east without the rule", south.leastWay(2, 1), 2);
    }

    private static void eastAgainAndAgain() {
        MeshTurns x = new MeshTurns();
        x.mesh(5, 2);
        Due.due("four moves to the east", x.leastWay(0, 4), 4);
        x.send(0, 4);
        for (int moves = 0; moves <= 4; moves++) {
            x.ticks(1);
            Due.due("box after " + moves + " moves", x.ofPacket(0, 3), moves);
            Due.due("it has not turned", x.ofPacket(0, 9), 0);
        }
        Due.due("arrived", x.ofPacket(0, 2), MeshTurns.ARRIVED);
    }

    private static void turnedAfterEachDirection() {
        int[] to = {6, 4, 9, 1};
        for (int side = 0; side < 4; side++) {
            MeshTurns x = new MeshTurns();
            x.send(5, to[side]);
            Due.due("outside, side " + side, x.ofPacket(0, 9), 0);
            x.ticks(1);
            Due.due("inside, side " + side, x.ofPacket(0, 9), 0);
            x.ticks(1);
            Due.due("moved to side " + side, x.ofPacket(0, 9), side == MeshTurns.EAST ? 0 : 1);
            Due.due("counted at side " + side, x.ofBox(5, 7 + side), 1);
        }
    }

    /** Though every move is on the shortest way there is, the one that leads away is a detour. */
    private static void aDetourIsSeenByColumnsAndRows() {
        MeshTurns x = new MeshTurns();
        x.mesh(3, 2);
        x.set(MeshTurns.RULE, 0);
        x.set(MeshTurns.DETOURS, 1);
        x.link(1, MeshTurns.EAST, 0);
        // From box 0 to box 2 by boxes 1, 4 and 5: the move from 1 to 4 is the detour.
        x.send(0, 2);
        x.ticks(1);
        int[] box = {0, 1, 4, 5, 2};
        int[] detours = {0, 0, 1, 1, 1};
        int[] length = {4, 3, 2, 1, 0};
        for (int moves = 0; moves <= 4; moves++) {
            Due.due("box after " + moves + " moves", x.ofPacket(0, 3), box[moves]);
            Due.due("detours after " + moves + " moves", x.ofPacket(0, 5), detours[moves]);
            Due.due("way length after " + moves + " moves", x.ofPacket(0, 10), length[moves]);
            x.ticks(1);
        }
        Due.due("detours in all", x.count(8), 1);
    }

    /** A move to a box that is nearer is no detour, also if the way from there is the longer one. */
    private static void noDetourIntoADeadEnd() {
        MeshTurns x = new MeshTurns();
        x.mesh(3, 2);
        x.set(MeshTurns.RULE, 0);
        x.set(MeshTurns.DETOURS, 1);
        // Box 1 has the link to box 0 alone; from box 0 to box 5 it is two moves by the north, too.
        x.send(0, 5);
        x.link(1, MeshTurns.EAST, 0);
        x.link(1, MeshTurns.NORTH, 0);
        Due.due("the way by the north", x.leastWay(0, 5), 3);
        Due.due("from the dead end it is longer", x.leastWay(1, 5), 4);
        x.send(3, 0);
        x.ticks(1);
        // Packet 1 is in box 3; into box 1 and out of it again is one detour, and there is one.
        x.ticks(1);
        Due.due("packet 0 moved into the dead end", x.ofPacket(0, 3), 1);
        Due.due("that was no detour", x.ofPacket(0, 5), 0);
        x.ticks(1);
        Due.due("out of it", x.ofPacket(0, 3), 0);
        Due.due("that was one", x.ofPacket(0, 5), 1);
        Due.due("the rest of the way", x.ofPacket(0, 10), 3);
        Due.due("not into it again", x.ofPacket(0, 11), MeshTurns.NORTH);
    }

    private static void otherPacketsDoNotMatter() {
        MeshTurns x = new MeshTurns();
        x.send(1, 5);
        x.send(2, 6);
        x.ticks(1);
        x.link(1, MeshTurns.NORTH, 0);
        x.link(2, MeshTurns.NORTH, 0);
        Due.due("two are stuck on the way", x.count(10), 2);
        Due.due("the way length", x.leastWay(0, 3), 3);
        Due.due("one way", x.ways(0, 3), 1);
        Due.due("a packet can be sent", x.send(0, 3), 2);
        x.ticks(3);
        Due.due("its way length", x.ofPacket(2, 10), 3);
        Due.due("its direction", x.ofPacket(2, 11), MeshTurns.EAST);
        Due.due("it waits all the same", x.ofPacket(2, 6), 2);
        Due.due("and is stuck", x.ofPacket(2, 12), 1);
    }

    private static void alike(int from, int to, int brokenSide, int first, int second) {
        MeshTurns x = new MeshTurns();
        x.mesh(3, 3);
        x.set(MeshTurns.RULE, 0);
        x.set(MeshTurns.DETOURS, 1);
        if (brokenSide >= 0) {
            x.link(from, brokenSide, 0);
        }
        x.send(from, to);
        Due.due("from " + from + " to " + to + ": first direction", x.ofPacket(0, 11), first);
        x.ticks(1);
        x.link(from, first, 0);
        Due.due("from " + from + " to " + to + ": the other one", x.ofPacket(0, 11), second);
        x.link(from, first, 1);
        x.ticks(1);
        Due.due("from " + from + " to " + to + ": it moved so", x.ofBox(from, 7 + first), 1);
    }

    private static void ofTwoAlikeTheLowestDirection() {
        alike(1, 7, MeshTurns.NORTH, MeshTurns.EAST, MeshTurns.WEST);
        alike(0, 8, -1, MeshTurns.EAST, MeshTurns.NORTH);
        alike(6, 2, -1, MeshTurns.EAST, MeshTurns.SOUTH);
        alike(2, 6, -1, MeshTurns.WEST, MeshTurns.NORTH);
        alike(8, 0, -1, MeshTurns.WEST, MeshTurns.SOUTH);
        alike(3, 5, MeshTurns.EAST, MeshTurns.NORTH, MeshTurns.SOUTH);
    }

    /** A packet in the middle with four possible directions, of which the first ones are full. */
    private static void fromTheFirstToTheFourthDirection() {
        int[] besideFrom = {13, 11, 17, 7};
        int[] besideTo = {18, 16, 22, 2};
        for (int full = 0; full <= 4; full++) {
            MeshTurns x = new MeshTurns();
            x.mesh(5, 5);
            x.set(MeshTurns.RULE, 0);
            x.set(MeshTurns.DETOURS, 1);
            x.send(12, 14);
            for (int side = 0; side < full; side++) {
                x.send(besideFrom[side], besideTo[side]);
            }
            // The others move in the same tick, but behind packet 0.
            x.ticks(2);
            Due.due(full + " boxes are full: box", x.ofPacket(0, 3), full < 4 ? besideFrom[full] : 12);
            Due.due(full + " boxes are full: moves", x.ofPacket(0, 4), full < 4 ? 1 : 0);
            Due.due(full + " boxes are full: detours", x.ofPacket(0, 5), full == 0 || full == 4 ? 0 : 1);
            Due.due(full + " boxes are full: waits", x.ofPacket(0, 6), full < 4 ? 0 : 1);
            Due.due(full + " boxes are full: the others moved", x.count(6), full);
        }
    }

    /** As above, but a detour is not possible: then it waits, though there is room on the other sides. */
    private static void noDirectionThatIsNotPossible() {
        MeshTurns x = new MeshTurns();
        x.mesh(5, 5);
        x.set(MeshTurns.RULE, 0);
        x.send(12, 14);
        x.send(13, 18);
        x.ticks(2);
        Due.due("it is where it was", x.ofPacket(0, 3), 12);
        Due.due("it waited", x.ofPacket(0, 6), 1);
        x.ticks(2);
        Due.due("then it moved on", x.ofPacket(0, 2), MeshTurns.ARRIVED);
    }
}
