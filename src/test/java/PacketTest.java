/** Promises 5 to 9: send, ticks, ofPacket, ofBox, count. */
public final class PacketTest {
    public static void main(String[] args) {
        sendErrors();
        fortyPackets();
        oneJourney();
        theWaitOutside();
        roomIsLookedAtInOrder();
        theBoxWhereItGoesHasAlwaysRoom();
        secondDirection();
        orderOfDirections();
        theRuleOfTheEast();
        theRuleCountsWhenItIsSet();
        detours();
        fewerDetoursThanMade();
        noMoreDetoursThanAllowed();
        exactlyAsManyDetours();
        lessRoom();
        aCircleIsStuck();
        aWheelIsStuck();
        oneFreePacketInAFullBox();
        stuckBehindStuck();
        brokenLinkMakesStuck();
        ticksErrors();
        ofPacketErrors();
        ofBoxNumbers();
        countErrors();
        sendToEveryBox();
        ticksAreCounted();
        everyNumberIsTold();
        Due.finish();
    }

    private static void sendErrors() {
        MeshTurns x = new MeshTurns();
        Due.due("send(-1, 0)", x.send(-1, 0), MeshTurns.NO_SUCH);
        Due.due("send(0, -1)", x.send(0, -1), MeshTurns.NO_SUCH);
        Due.due("send(16, 0)", x.send(16, 0), MeshTurns.NO_SUCH);
        Due.due("send(0, 16)", x.send(0, 16), MeshTurns.NO_SUCH);
        Due.due("send(MAX, MIN)", x.send(Integer.MAX_VALUE, Integer.MIN_VALUE), MeshTurns.NO_SUCH);
        Due.due("send(3, 3)", x.send(3, 3), MeshTurns.NO_SUCH);
        x.link(0, MeshTurns.EAST, 0);
        Due.due("send(0, 1) with no way", x.send(0, 1), MeshTurns.NOT_POSSIBLE);
        Due.due("errors send nothing", x.count(3), 0);
        Due.due("errors record nothing", x.count(13), 1);
        x.ticks(3);
        Due.due("send(1, 0) with no way", x.send(1, 0), MeshTurns.NOT_POSSIBLE);
        Due.due("send(1, 2)", x.send(1, 2), 0);
        Due.due("the box where it is", x.ofPacket(0, 3), 1);
        Due.due("sent in tick 3", x.ofPacket(0, 7), 3);
        Due.due("it is outside", x.ofPacket(0, 2), MeshTurns.OUTSIDE);
        Due.due("it has not arrived", x.ofPacket(0, 8), MeshTurns.NONE);
        Due.due("a send is a change", x.count(13), 3);
    }

    private static void fortyPackets() {
        MeshTurns x = new MeshTurns();
        for (int p = 0; p < 40; p++) {
            Due.due("send " + p, x.send(p % 16, (p + 1) % 16), p);
        }
        Due.due("send 40", x.send(0, 1), MeshTurns.TOO_MANY);
        Due.due("NO_SUCH is ahead of TOO_MANY", x.send(0, 0), MeshTurns.NO_SUCH);
        x.link(0, MeshTurns.EAST, 0);
        Due.due("TOO_MANY is ahead of NOT_POSSIBLE", x.send(0, 1), MeshTurns.TOO_MANY);
        Due.due("40 packets", x.count(3), 40);
        Due.due("the last one", x.ofPacket(39, 0), 7);
        x.set(MeshTurns.ROOM, 4);
        x.ticks(1);
        Due.due("all are inside", x.count(5), 40);
        Due.due("none moved", x.count(7), 0);
        Due.due("no detours", x.count(8), 0);
        Due.due("no waits", x.count(9), 0);
        // From box 0 to box 1 the link is broken; from box 15 to box 0 and the like there is a way.
        Due.due("stuck packets", x.count(10), 3);
        Due.due("the last packet is not", x.ofPacket(39, 12), 0);
        Due.due("inside of box 7", x.ofBox(7, 0), 3);
        Due.due("arrived by then", x.arrivedBy(300), 37);
        x.link(0, MeshTurns.EAST, 1);
        x.ticks(300);
        Due.due("all have arrived", x.count(6), 40);
        Due.due("arrived ones count, too", x.send(0, 1), MeshTurns.TOO_MANY);
    }

    private static void oneJourney() {
        MeshTurns x = new MeshTurns();
        x.ticks(10);
        Due.due("send(0, 6)", x.send(0, 6), 0);
        // To the east twice, then to the north.
        int[] box = {0, 1, 2, 6};
        int[] length = {3, 2, 1, 0};
        int[] direction = {MeshTurns.EAST, MeshTurns.EAST, MeshTurns.NORTH, MeshTurns.NONE};
        Due.due("way length outside", x.ofPacket(0, 10), 3);
        Due.due("direction outside", x.ofPacket(0, 11), MeshTurns.EAST);
        for (int i = 0; i < 4; i++) {
            Due.due("ticks(1)", x.ticks(1), 11 + i);
            Due.due("place in step " + i, x.ofPacket(0, 2), i < 3 ? MeshTurns.INSIDE : MeshTurns.ARRIVED);
            Due.due("box in step " + i, x.ofPacket(0, 3), box[i]);
            Due.due("moves in step " + i, x.ofPacket(0, 4), i);
            Due.due("turned in step " + i, x.ofPacket(0, 9), i < 3 ? 0 : 1);
            Due.due("way length in step " + i, x.ofPacket(0, 10), length[i]);
            Due.due("direction in step " + i, x.ofPacket(0, 11), direction[i]);
        }
        Due.due("arrived in the tick ahead of its increase", x.ofPacket(0, 8), 13);
        Due.due("sent in", x.ofPacket(0, 7), 10);
        Due.due("from", x.ofPacket(0, 0), 0);
        Due.due("to", x.ofPacket(0, 1), 6);
        Due.due("no detour", x.ofPacket(0, 5), 0);
        Due.due("no wait", x.ofPacket(0, 6), 0);
        Due.due("not stuck", x.ofPacket(0, 12), 0);
        x.ticks(5);
        Due.due("it does not wait after it has arrived", x.ofPacket(0, 6), 0);
        Due.due("arrived packets are inside of no box", x.ofBox(6, 0), 0);
        Due.due("arrived there", x.ofBox(6, 2), 1);
    }

    private static void theWaitOutside() {
        MeshTurns x = new MeshTurns();
        x.send(0, 1);
        x.send(0, 1);
        x.send(0, 4);
        x.ticks(1);
        Due.due("the first is inside", x.ofPacket(0, 2), MeshTurns.INSIDE);
        Due.due("the second waits", x.ofPacket(1, 6), 1);
        Due.due("the third waits", x.ofPacket(2, 6), 1);
        Due.due("two are outside of the box", x.ofBox(0, 1), 2);
        Due.due("one is inside of it", x.ofBox(0, 0), 1);
        x.ticks(1);
        Due.due("the first has arrived", x.ofPacket(0, 2), MeshTurns.ARRIVED);
        Due.due("the second came inside in the same tick", x.ofPacket(1, 2), MeshTurns.INSIDE);
        Due.due("the third waits again", x.ofPacket(2, 6), 2);
        Due.due("waits in all", x.count(9), 3);
        x.set(MeshTurns.ROOM, 2);
        x.ticks(1);
        Due.due("the second has arrived in tick 2", x.ofPacket(1, 8), 2);
        Due.due("the third is inside", x.ofPacket(2, 2), MeshTurns.INSIDE);
        Due.due("it moved not yet", x.ofPacket(2, 4), 0);
    }

    /** A packet that comes earlier in the order makes room for a later one, but not the other way round. */
    private static void roomIsLookedAtInOrder() {
        MeshTurns x = new MeshTurns();
        x.send(0, 3);
        x.send(1, 3);
        x.ticks(2);
        Due.due("packet 0 found box 1 full", x.ofPacket(0, 3), 0);
        Due.due("packet 0 waited", x.ofPacket(0, 6), 1);
        Due.due("packet 1 moved", x.ofPacket(1, 3), 2);
        MeshTurns y = new MeshTurns();
        y.send(1, 3);
        y.send(0, 3);
        y.ticks(2);
        Due.due("packet 0 moved ahead", y.ofPacket(0, 3), 2);
        Due.due("packet 1 found room", y.ofPacket(1, 3), 1);
        Due.due("packet 1 did not wait", y.ofPacket(1, 6), 0);
    }

    private static void theBoxWhereItGoesHasAlwaysRoom() {
        MeshTurns x = new MeshTurns();
        x.send(0, 1);
        x.send(1, 0);
        x.ticks(2);
        Due.due("both have arrived", x.count(6), 2);
        Due.due("without waits", x.count(9), 0);
    }

    /** Box 0 to box 5: to the east first; box 1 is full, so to the north. */
    private static void secondDirection() {
        MeshTurns x = new MeshTurns();
        x.set(MeshTurns.RULE, 0);
        x.send(1, 2);
        x.send(0, 5);
        x.ticks(1);
        x.link(1, MeshTurns.EAST, 0);
        Due.due("packet 0 is stuck in box 1", x.ofPacket(0, 12), 1);
        Due.due("first direction whether it has room or not", x.ofPacket(1, 11), MeshTurns.EAST);
        x.ticks(1);
        Due.due("it moved to the north", x.ofPacket(1, 3), 4);
        Due.due("it has turned", x.ofPacket(1, 9), 1);
        Due.due("its way length", x.ofPacket(1, 10), 1);
        // By the rule it may not go to the east any more.
        x.set(MeshTurns.RULE, 1);
        Due.due("no way length", x.ofPacket(1, 10), MeshTurns.NONE);
    }

    private static void orderOfDirections() {
        MeshTurns x = new MeshTurns();
        x.set(MeshTurns.RULE, 0);
        x.send(5, 10);
        x.send(10, 5);
        x.send(6, 9);
        x.send(9, 6);
        Due.due("east ahead of north", x.ofPacket(0, 11), MeshTurns.EAST);
        Due.due("west ahead of south", x.ofPacket(1, 11), MeshTurns.WEST);
        Due.due("west ahead of north", x.ofPacket(2, 11), MeshTurns.WEST);
        Due.due("east ahead of south", x.ofPacket(3, 11), MeshTurns.EAST);
        x.set(MeshTurns.DETOURS, 1);
        x.link(5, MeshTurns.EAST, 0);
        Due.due("north, as the link to the east is broken", x.ofPacket(0, 11), MeshTurns.NORTH);
        x.link(5, MeshTurns.EAST, 1);
        x.link(6, MeshTurns.NORTH, 0);
        Due.due("the shorter way is first", x.ofPacket(0, 11), MeshTurns.NORTH);
    }

    private static void theRuleOfTheEast() {
        MeshTurns x = new MeshTurns();
        x.mesh(3, 3);
        // Box 0 to box 8 with box 2 cut off: the last move would have to be one to the east.
        x.link(1, MeshTurns.EAST, 0);
        Due.due("no way by the rule", x.send(0, 8), MeshTurns.NOT_POSSIBLE);
        Due.due("to the west and the south it has no say", x.send(8, 0), 0);
        x.set(MeshTurns.RULE, 0);
        Due.due("a way without it", x.send(0, 8), 1);
        x.ticks(3);
        // Packet 1 goes east, north, and then east and north.
        Due.due("packet 1 has turned", x.ofPacket(1, 9), 1);
        Due.due("packet 1 is in box 4", x.ofPacket(1, 3), 4);
        Due.due("it goes on to the east", x.ofPacket(1, 11), MeshTurns.EAST);
        x.set(MeshTurns.RULE, 1);
        Due.due("it may not by the rule", x.ofPacket(1, 11), MeshTurns.NONE);
        Due.due("it has no way length", x.ofPacket(1, 10), MeshTurns.NONE);
        Due.due("it is stuck", x.ofPacket(1, 12), 1);
        x.ticks(2);
        Due.due("it waits", x.ofPacket(1, 6), 2);
        Due.due("it is where it was", x.ofPacket(1, 3), 4);
    }

    /** What a packet did ahead of the rule counts under it. */
    private static void theRuleCountsWhenItIsSet() {
        MeshTurns x = new MeshTurns();
        x.mesh(3, 3);
        x.set(MeshTurns.RULE, 0);
        x.link(0, MeshTurns.EAST, 0);
        x.send(0, 8);
        x.ticks(2);
        Due.due("it went to the north", x.ofPacket(0, 3), 3);
        x.set(MeshTurns.RULE, 1);
        Due.due("it may not go to the east now", x.ofPacket(0, 10), MeshTurns.NONE);
        x.set(MeshTurns.RULE, 0);
        Due.due("now it may", x.ofPacket(0, 10), 3);
    }

    private static void detours() {
        MeshTurns x = new MeshTurns();
        x.mesh(3, 3);
        x.set(MeshTurns.RULE, 0);
        x.set(MeshTurns.DETOURS, 1);
        x.link(0, MeshTurns.EAST, 0);
        Due.due("send(0, 1)", x.send(0, 1), 0);
        Due.due("way length with a detour", x.ofPacket(0, 10), 3);
        x.ticks(2);
        Due.due("the detour is counted", x.ofPacket(0, 5), 1);
        Due.due("detours in all", x.count(8), 1);
        Due.due("two moves are left", x.ofPacket(0, 10), 2);
        x.ticks(2);
        Due.due("arrived", x.ofPacket(0, 2), MeshTurns.ARRIVED);
        Due.due("moves", x.ofPacket(0, 4), 3);
        Due.due("one detour", x.ofPacket(0, 5), 1);
        Due.due("moves in all", x.count(7), 3);
    }

    private static void fewerDetoursThanMade() {
        MeshTurns x = new MeshTurns();
        x.mesh(3, 3);
        x.set(MeshTurns.RULE, 0);
        x.set(MeshTurns.DETOURS, 2);
        // To box 1 round by boxes 3, 6, 7, 4: two detours, two moves across and up, then down.
        x.link(0, MeshTurns.EAST, 0);
        x.link(3, MeshTurns.EAST, 0);
        Due.due("send(0, 1)", x.send(0, 1), 0);
        Due.due("way length", x.ofPacket(0, 10), 5);
        x.ticks(3);
        Due.due("box 6 after two detours", x.ofPacket(0, 3), 6);
        Due.due("two detours", x.ofPacket(0, 5), 2);
        x.set(MeshTurns.DETOURS, 0);
        Due.due("it needs no more detours", x.ofPacket(0, 10), 3);
        x.link(6, MeshTurns.EAST, 0);
        Due.due("no way without one", x.ofPacket(0, 10), MeshTurns.NONE);
        Due.due("one that would be sent has none, too", x.leastWay(0, 1), MeshTurns.NONE);
        x.link(6, MeshTurns.EAST, 1);
        x.ticks(3);
        Due.due("arrived", x.ofPacket(0, 2), MeshTurns.ARRIVED);
    }

    private static void noMoreDetoursThanAllowed() {
        MeshTurns x = new MeshTurns();
        x.mesh(3, 3);
        x.set(MeshTurns.RULE, 0);
        x.link(0, MeshTurns.EAST, 0);
        x.link(3, MeshTurns.EAST, 0);
        // As above: two detours are needed.
        for (int detours = 0; detours < 2; detours++) {
            x.set(MeshTurns.DETOURS, detours);
            Due.due("too few detours: " + detours, x.leastWay(0, 1), MeshTurns.NONE);
            Due.due("no ways: " + detours, x.ways(0, 1), 0);
            Due.due("no send: " + detours, x.send(0, 1), MeshTurns.NOT_POSSIBLE);
        }
        x.set(MeshTurns.DETOURS, 2);
        x.link(3, MeshTurns.EAST, 1);
        x.send(0, 1);
        x.ticks(2);
        Due.due("box 3 after one detour", x.ofPacket(0, 3), 3);
        x.link(3, MeshTurns.EAST, 0);
        Due.due("one more is left", x.ofPacket(0, 10), 4);
        x.set(MeshTurns.DETOURS, 1);
        Due.due("none is left", x.ofPacket(0, 10), MeshTurns.NONE);
        Due.due("no direction", x.ofPacket(0, 11), MeshTurns.NONE);
        Due.due("it is stuck", x.ofPacket(0, 12), 1);
        x.ticks(1);
        Due.due("it waits", x.ofPacket(0, 6), 1);
        x.set(MeshTurns.DETOURS, 4);
        Due.due("the shortest way is the length", x.ofPacket(0, 10), 4);
        x.ticks(4);
        Due.due("arrived with two detours", x.ofPacket(0, 5), 2);
        Due.due("arrived with five moves", x.ofPacket(0, 4), 5);
    }

    /** A wall of n links to the east of the first column: round it there are as many detours. */
    private static void exactlyAsManyDetours() {
        for (int wall = 1; wall <= 4; wall++) {
            MeshTurns x = new MeshTurns();
            x.mesh(5, 5);
            x.set(MeshTurns.RULE, 0);
            for (int row = 0; row < wall; row++) {
                x.link(5 * row, MeshTurns.EAST, 0);
            }
            for (int detours = 0; detours <= 4; detours++) {
                x.set(MeshTurns.DETOURS, detours);
                int due = detours < wall ? MeshTurns.NONE : 1 + 2 * wall;
                Due.due("wall " + wall + ", detours " + detours, x.leastWay(0, 1), due);
            }
            Due.due("wall " + wall + ": send", x.send(0, 1), 0);
            for (int detours = 0; detours <= 4; detours++) {
                x.set(MeshTurns.DETOURS, detours);
                int due = detours < wall ? MeshTurns.NONE : 1 + 2 * wall;
                Due.due("wall " + wall + ", detours " + detours + ": packet", x.ofPacket(0, 10), due);
                Due.due("its direction", x.ofPacket(0, 11), detours < wall ? MeshTurns.NONE : MeshTurns.NORTH);
            }
        }
    }

    private static void lessRoom() {
        MeshTurns x = new MeshTurns();
        x.set(MeshTurns.ROOM, 2);
        x.send(0, 2);
        x.send(0, 2);
        x.send(0, 2);
        x.ticks(1);
        Due.due("two are inside", x.ofBox(0, 0), 2);
        x.set(MeshTurns.ROOM, 1);
        Due.due("they stay where they are", x.ofBox(0, 0), 2);
        x.ticks(1);
        Due.due("one moved, and there is no room for the next", x.ofBox(0, 0), 1);
        Due.due("box 1 has one", x.ofBox(1, 0), 1);
        Due.due("one is outside", x.ofBox(0, 1), 1);
    }

    private static void aCircleIsStuck() {
        MeshTurns x = new MeshTurns();
        x.mesh(4, 2);
        x.send(1, 3);
        x.send(2, 0);
        x.ticks(1);
        // Packet 0 wants from box 1 to box 2, packet 1 from box 2 to box 1.
        Due.due("packet 0 is stuck", x.ofPacket(0, 12), 1);
        Due.due("packet 1 is stuck", x.ofPacket(1, 12), 1);
        Due.due("stuck packets", x.count(10), 2);
        x.send(0, 2);
        Due.due("those outside are not", x.ofPacket(2, 12), 0);
        Due.due("two are stuck all the same", x.count(10), 2);
        x.ticks(4);
        Due.due("all wait", x.count(9), 11);
        Due.due("packet 2 is in box 0", x.ofPacket(2, 3), 0);
        Due.due("and is stuck behind them", x.ofPacket(2, 12), 1);
        Due.due("three are stuck", x.count(10), 3);
        x.set(MeshTurns.ROOM, 2);
        Due.due("room makes all free", x.count(10), 0);
        x.ticks(6);
        Due.due("all have arrived", x.count(6), 3);
    }

    /** Each packet goes to the other corner, and has two directions, both of them full. */
    private static void aWheelIsStuck() {
        MeshTurns x = new MeshTurns();
        x.mesh(2, 2);
        x.set(MeshTurns.RULE, 0);
        x.send(0, 3);
        x.send(1, 2);
        x.send(3, 0);
        x.ticks(1);
        Due.due("box 2 is free", x.count(10), 0);
        x.send(2, 1);
        x.undo();
        x.undo();
        x.send(2, 1);
        x.ticks(1);
        Due.due("four are stuck", x.count(10), 4);
        x.ticks(10);
        Due.due("none has moved", x.count(7), 0);
        Due.due("all have waited", x.count(9), 40);
        Due.due("each has a way all the same", x.ofPacket(3, 10), 2);
        x.set(MeshTurns.ROOM, 2);
        Due.due("room made all free", x.count(10), 0);
    }

    private static void stuckBehindStuck() {
        MeshTurns x = new MeshTurns();
        x.send(2, 3);
        x.send(1, 3);
        x.send(0, 3);
        x.ticks(1);
        Due.due("a chain whose head goes to its goal is free", x.count(10), 0);
        x.link(2, MeshTurns.EAST, 0);
        Due.due("the head has no way", x.ofPacket(0, 10), MeshTurns.NONE);
        // Those behind it have none, too: by the rule all have to come by this link.
        Due.due("all are stuck", x.count(10), 3);
        x.link(2, MeshTurns.EAST, 1);
        x.set(MeshTurns.ROOM, 2);
        Due.due("none is stuck", x.count(10), 0);
        MeshTurns y = new MeshTurns();
        y.send(0, 3);
        y.send(1, 3);
        y.send(2, 3);
        y.ticks(1);
        Due.due("the same chain from its tail", y.count(10), 0);
        Due.due("the tail is free", y.ofPacket(0, 12), 0);
    }

    /** Box 1 is full with a stuck packet and a free one: then the packet behind them is free, too. */
    private static void oneFreePacketInAFullBox() {
        MeshTurns x = new MeshTurns();
        x.set(MeshTurns.ROOM, 2);
        x.send(1, 2);
        x.send(1, 5);
        x.send(0, 5);
        x.ticks(1);
        x.link(1, MeshTurns.EAST, 0);
        Due.due("packet 0 is stuck", x.ofPacket(0, 12), 1);
        Due.due("packet 1 is free", x.ofPacket(1, 12), 0);
        Due.due("packet 2 is free", x.ofPacket(2, 12), 0);
        x.link(1, MeshTurns.NORTH, 0);
        Due.due("now all are stuck", x.count(10), 3);
    }

    private static void brokenLinkMakesStuck() {
        MeshTurns x = new MeshTurns();
        x.send(0, 1);
        x.link(0, MeshTurns.EAST, 0);
        Due.due("outside it is not stuck", x.ofPacket(0, 12), 0);
        Due.due("outside it has no way", x.ofPacket(0, 10), MeshTurns.NONE);
        Due.due("outside it has no direction", x.ofPacket(0, 11), MeshTurns.NONE);
        x.ticks(1);
        Due.due("it comes inside all the same", x.ofPacket(0, 2), MeshTurns.INSIDE);
        Due.due("inside it is stuck", x.ofPacket(0, 12), 1);
        x.ticks(1);
        Due.due("it waits", x.ofPacket(0, 6), 1);
        x.link(0, MeshTurns.EAST, 1);
        Due.due("it is free", x.ofPacket(0, 12), 0);
        x.ticks(1);
        Due.due("it has arrived", x.ofPacket(0, 2), MeshTurns.ARRIVED);
        x.link(0, MeshTurns.EAST, 0);
        Due.due("arrived: way length 0", x.ofPacket(0, 10), 0);
        Due.due("arrived: no direction", x.ofPacket(0, 11), MeshTurns.NONE);
        Due.due("arrived: not stuck", x.ofPacket(0, 12), 0);
    }

    private static void ticksErrors() {
        MeshTurns x = new MeshTurns();
        Due.due("ticks(0)", x.ticks(0), MeshTurns.BAD_VALUE);
        Due.due("ticks(-1)", x.ticks(-1), MeshTurns.BAD_VALUE);
        Due.due("ticks(301)", x.ticks(301), MeshTurns.BAD_VALUE);
        Due.due("ticks(MAX)", x.ticks(Integer.MAX_VALUE), MeshTurns.BAD_VALUE);
        Due.due("ticks(MIN)", x.ticks(Integer.MIN_VALUE), MeshTurns.BAD_VALUE);
        Due.due("errors change nothing", x.count(0), 0);
        Due.due("errors record nothing", x.count(13), 0);
        Due.due("ticks(300)", x.ticks(300), 300);
        Due.due("ticks(1)", x.ticks(1), 301);
        Due.due("ticks are one change each", x.count(13), 2);
    }

    private static void ofPacketErrors() {
        MeshTurns x = new MeshTurns();
        Due.due("no packet", x.ofPacket(0, 0), MeshTurns.NO_SUCH);
        x.send(0, 1);
        Due.due("ofPacket(-1, 0)", x.ofPacket(-1, 0), MeshTurns.NO_SUCH);
        Due.due("ofPacket(1, 0)", x.ofPacket(1, 0), MeshTurns.NO_SUCH);
        Due.due("ofPacket(40, 0)", x.ofPacket(40, 0), MeshTurns.NO_SUCH);
        Due.due("ofPacket(MAX, 0)", x.ofPacket(Integer.MAX_VALUE, 0), MeshTurns.NO_SUCH);
        Due.due("ofPacket(0, 13)", x.ofPacket(0, 13), MeshTurns.BAD_VALUE);
        Due.due("ofPacket(0, -1)", x.ofPacket(0, -1), MeshTurns.BAD_VALUE);
        Due.due("NO_SUCH is ahead of BAD_VALUE", x.ofPacket(1, 13), MeshTurns.NO_SUCH);
        x.undo();
        Due.due("its send was undone", x.ofPacket(0, 0), MeshTurns.NO_SUCH);
    }

    private static void ofBoxNumbers() {
        MeshTurns x = new MeshTurns();
        Due.due("ofBox(-1, 0)", x.ofBox(-1, 0), MeshTurns.NO_SUCH);
        Due.due("ofBox(16, 0)", x.ofBox(16, 0), MeshTurns.NO_SUCH);
        Due.due("ofBox(0, -1)", x.ofBox(0, -1), MeshTurns.BAD_VALUE);
        Due.due("ofBox(0, 11)", x.ofBox(0, 11), MeshTurns.BAD_VALUE);
        Due.due("ofBox(0, MAX)", x.ofBox(0, Integer.MAX_VALUE), MeshTurns.BAD_VALUE);
        Due.due("NO_SUCH is ahead of BAD_VALUE", x.ofBox(16, 11), MeshTurns.NO_SUCH);
        // One packet to each side of box 5, then one of them once more.
        x.set(MeshTurns.ROOM, 4);
        x.send(5, 6);
        x.send(5, 4);
        x.send(5, 9);
        x.send(5, 1);
        x.send(5, 9);
        Due.due("outside of box 5", x.ofBox(5, 1), 5);
        x.ticks(1);
        Due.due("inside of box 5", x.ofBox(5, 0), 4);
        Due.due("outside of box 5 now", x.ofBox(5, 1), 1);
        Due.due("nobody moved yet", x.ofBox(5, 7), 0);
        x.ticks(2);
        int[] moves = {1, 1, 2, 1};
        for (int side = 0; side < 4; side++) {
            Due.due("moves from box 5 to side " + side, x.ofBox(5, 7 + side), moves[side]);
        }
        Due.due("moves from where there is no box", x.ofBox(0, 8), 0);
        Due.due("arrived in box 9", x.ofBox(9, 2), 2);
        Due.due("arrived in box 5", x.ofBox(5, 2), 0);
        Due.due("inside of box 9", x.ofBox(9, 0), 0);
    }

    private static void countErrors() {
        MeshTurns x = new MeshTurns();
        Due.due("count(-1)", x.count(-1), MeshTurns.BAD_VALUE);
        Due.due("count(17)", x.count(17), MeshTurns.BAD_VALUE);
        Due.due("count(MIN)", x.count(Integer.MIN_VALUE), MeshTurns.BAD_VALUE);
        x.mesh(5, 2);
        x.send(0, 4);
        x.send(0, 9);
        x.ticks(2);
        Due.write(x, "t1;t2");
        // Packet 0 is in box 1, packet 1 came inside of box 0 behind it, after one wait.
        int[] due = {2, 10, 5, 2, 0, 2, 0, 1, 0, 1, 0, 0, 5, 4, 1, 0, 1};
        for (int what = 0; what < due.length; what++) {
            Due.due("count(" + what + ")", x.count(what), due[what]);
        }
        x.ticks(3);
        Due.due("packet 0 has arrived", x.count(6), 1);
        Due.due("packet 1 is inside", x.count(5), 1);
        Due.due("moves in all", x.count(7), 7);
    }

    private static void sendToEveryBox() {
        for (int from = 0; from < 16; from++) {
            MeshTurns x = new MeshTurns();
            int sent = 0;
            for (int to = -1; to <= 16; to++) {
                boolean isGood = to >= 0 && to < 16 && to != from;
                Due.due("send(" + from + ", " + to + ")", x.send(from, to), isGood ? sent : MeshTurns.NO_SUCH);
                sent += isGood ? 1 : 0;
            }
            Due.due("outside of box " + from, x.ofBox(from, 1), 15);
            Due.due("outside in all", x.count(4), 15);
        }
    }

    private static void ticksAreCounted() {
        int passed = 0;
        MeshTurns x = new MeshTurns();
        for (int ticks = -2; ticks <= 303; ticks++) {
            boolean isGood = ticks >= 1 && ticks <= 300;
            passed += isGood ? ticks : 0;
            Due.due("ticks(" + ticks + ")", x.ticks(ticks), isGood ? passed : MeshTurns.BAD_VALUE);
        }
        Due.due("the tick", x.count(0), 300 * 301 / 2);
    }

    /** Whatever is asked: numbers of the range are answered, and those beside it are refused. */
    private static void everyNumberIsTold() {
        MeshTurns x = new MeshTurns();
        x.send(5, 6);
        x.ticks(1);
        int[] ofPacket = {5, 6, 1, 5, 0, 0, 0, 0, MeshTurns.NONE, 0, 1, MeshTurns.EAST, 0};
        int[] ofBox = {1, 0, 0, 1, 1, 1, 1, 0, 0, 0, 0};
        int[] count = {1, 16, 4, 1, 0, 1, 0, 0, 0, 0, 0, 0, 0, 2, 1, 0, 1};
        for (int what = -3; what <= 20; what++) {
            Due.due("ofPacket(0, " + what + ")", x.ofPacket(0, what), known(ofPacket, what));
            Due.due("ofBox(5, " + what + ")", x.ofBox(5, what), known(ofBox, what));
            Due.due("count(" + what + ")", x.count(what), known(count, what));
        }
    }

    private static int known(int[] numbers, int what) {
        return what >= 0 && what < numbers.length ? numbers[what] : MeshTurns.BAD_VALUE;
    }
}
