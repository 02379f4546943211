/** Promises 10 to 16: leastWay, ways, pairs, worstLink, busiest, arrivesIn, arrivedBy. */
public final class WhatIfTest {
    public static void main(String[] args) {
        leastWay();
        ways();
        waysWithDetours();
        pairs();
        worstLink();
        worstLinkOfSeveral();
        worstLinkNone();
        busiest();
        busiestOfSeveral();
        arrivesIn();
        arrivedBy();
        nothingChanges();
        eachLinkIsTheWorst();
        eachSideIsTheBusiest();
        aSideNotABox();
        errorsAheadOfNone();
        alwaysAndNever();
        fortyAfterEachOther();
        forecastsComeTrue();
        everyWayOfAWholeMesh();
        theLatestArrivalThatWasFound();
        Due.finish();
    }

    private static void leastWay() {
        MeshTurns x = new MeshTurns();
        Due.due("leastWay(0, 0)", x.leastWay(0, 0), 0);
        Due.due("leastWay(0, 15)", x.leastWay(0, 15), 6);
        Due.due("leastWay(15, 0)", x.leastWay(15, 0), 6);
        Due.due("leastWay(-1, 0)", x.leastWay(-1, 0), MeshTurns.NO_SUCH);
        Due.due("leastWay(0, -1)", x.leastWay(0, -1), MeshTurns.NO_SUCH);
        Due.due("leastWay(16, 16)", x.leastWay(16, 16), MeshTurns.NO_SUCH);
        Due.due("leastWay(0, MAX)", x.leastWay(0, Integer.MAX_VALUE), MeshTurns.NO_SUCH);
        for (int side = 0; side < 4; side++) {
            x.link(5, side, 0);
        }
        Due.due("no way to a box without links", x.leastWay(0, 5), MeshTurns.NONE);
        Due.due("no way from it", x.leastWay(5, 0), MeshTurns.NONE);
        Due.due("from it to itself", x.leastWay(5, 5), 0);
        // From 4 to 7 the row is interrupted, and the rule allows no other way, nor do the detours.
        Due.due("round it", x.leastWay(4, 7), MeshTurns.NONE);
        x.set(MeshTurns.RULE, 0);
        Due.due("round it without the rule", x.leastWay(4, 7), MeshTurns.NONE);
        x.set(MeshTurns.DETOURS, 1);
        Due.due("round it with a detour", x.leastWay(4, 7), 5);
        Due.due("round it to the west", x.leastWay(7, 4), 5);
        x.set(MeshTurns.RULE, 1);
        Due.due("to the west the rule has no say", x.leastWay(7, 4), 5);
        Due.due("to the east it has", x.leastWay(4, 7), MeshTurns.NONE);
    }

    private static void ways() {
        MeshTurns x = new MeshTurns();
        x.mesh(5, 5);
        Due.due("ways(0, 0)", x.ways(0, 0), 1);
        Due.due("ways(0, 24) by the rule", x.ways(0, 24), 1);
        Due.due("ways(24, 0)", x.ways(24, 0), 70);
        Due.due("ways(4, 20)", x.ways(4, 20), 70);
        Due.due("ways(20, 4) by the rule", x.ways(20, 4), 1);
        x.set(MeshTurns.RULE, 0);
        Due.due("ways(0, 24)", x.ways(0, 24), 70);
        Due.due("ways(20, 4)", x.ways(20, 4), 70);
        x.link(0, MeshTurns.EAST, 0);
        Due.due("half of them", x.ways(0, 24), 35);
        x.link(0, MeshTurns.NORTH, 0);
        Due.due("none", x.ways(0, 24), 0);
        Due.due("ways(0, 0) all the same", x.ways(0, 0), 1);
        Due.due("ways(-1, 0)", x.ways(-1, 0), MeshTurns.NO_SUCH);
        Due.due("ways(0, 25)", x.ways(0, 25), MeshTurns.NO_SUCH);
        Due.due("ways(25, 25)", x.ways(25, 25), MeshTurns.NO_SUCH);
    }

    private static void waysWithDetours() {
        MeshTurns x = new MeshTurns();
        x.mesh(3, 3);
        x.set(MeshTurns.RULE, 0);
        x.set(MeshTurns.DETOURS, 4);
        Due.due("ways that are longer do not count", x.ways(3, 5), 1);
        x.link(4, MeshTurns.EAST, 0);
        // Round by the north or the south, and each link across may be taken ahead of the turn or behind it.
        Due.due("leastWay(3, 5)", x.leastWay(3, 5), 4);
        Due.due("ways(3, 5)", x.ways(3, 5), 4);
        x.set(MeshTurns.DETOURS, 0);
        Due.due("none without detours", x.ways(3, 5), 0);
        // By the rule a detour to the east comes first: from box 0 east, north, and west to box 3.
        x.set(MeshTurns.RULE, 1);
        x.set(MeshTurns.DETOURS, 1);
        x.link(0, MeshTurns.NORTH, 0);
        Due.due("leastWay(0, 3)", x.leastWay(0, 3), 3);
        Due.due("ways(0, 3)", x.ways(0, 3), 1);
    }

    private static void pairs() {
        MeshTurns x = new MeshTurns();
        x.mesh(2, 2);
        Due.due("all pairs", x.pairs(), 12);
        x.link(0, MeshTurns.EAST, 0);
        // No way from 0 to 1 and from 1 to 0, and by the rule none from 0 to 3 but by box 1.
        Due.due("one link is broken", x.pairs(), 8 + 1);
        x.set(MeshTurns.RULE, 0);
        Due.due("without the rule", x.pairs(), 10);
        x.set(MeshTurns.DETOURS, 1);
        Due.due("with detours", x.pairs(), 12);
        x.link(2, MeshTurns.EAST, 0);
        Due.due("two halves", x.pairs(), 4);
        x.link(0, MeshTurns.NORTH, 0);
        Due.due("one pair of boxes", x.pairs(), 2);
        x.link(1, MeshTurns.NORTH, 0);
        Due.due("none", x.pairs(), 0);
        MeshTurns y = new MeshTurns();
        y.mesh(5, 5);
        Due.due("25 boxes", y.pairs(), 600);
    }

    private static void worstLink() {
        MeshTurns x = new MeshTurns();
        x.mesh(3, 2);
        x.set(MeshTurns.RULE, 0);
        x.set(MeshTurns.DETOURS, 4);
        // With the link from 4 to 5 broken the two boxes of the last column hang on the one from 1 to 2.
        x.link(4, MeshTurns.EAST, 0);
        Due.due("the box", x.worstLink(0), 1);
        Due.due("the side", x.worstLink(1), MeshTurns.EAST);
        Due.due("the pairs", x.worstLink(2), 12 + 2);
        x.link(1, MeshTurns.EAST, 0);
        // What is left is a ring of four, and the link from 2 to 5.
        Due.due("the box now", x.worstLink(0), 2);
        Due.due("the side now", x.worstLink(1), MeshTurns.NORTH);
        Due.due("the pairs now", x.worstLink(2), 12);
        Due.due("worstLink(-1)", x.worstLink(-1), MeshTurns.BAD_VALUE);
        Due.due("worstLink(3)", x.worstLink(3), MeshTurns.BAD_VALUE);
        Due.due("no link was broken", x.count(11), 2);
        Due.due("the pairs are the same", x.pairs(), 14);
    }

    private static void worstLinkOfSeveral() {
        MeshTurns x = new MeshTurns();
        x.mesh(2, 2);
        x.set(MeshTurns.RULE, 0);
        x.set(MeshTurns.DETOURS, 1);
        // A ring: each link leaves all twelve pairs.
        Due.due("the lowest box", x.worstLink(0), 0);
        Due.due("east ahead of north", x.worstLink(1), MeshTurns.EAST);
        Due.due("all are left", x.worstLink(2), 12);
        x.link(0, MeshTurns.EAST, 0);
        // A chain from 0 by 2 and 3 to 1: the one in the middle, from 2 to 3.
        Due.due("the middle of the chain", x.worstLink(0), 2);
        Due.due("its side", x.worstLink(1), MeshTurns.EAST);
        Due.due("two pairs of boxes", x.worstLink(2), 4);
        x.link(2, MeshTurns.EAST, 0);
        Due.due("two alike: the lowest box", x.worstLink(0), 0);
        Due.due("to the north", x.worstLink(1), MeshTurns.NORTH);
        Due.due("one pair", x.worstLink(2), 2);
    }

    private static void worstLinkNone() {
        MeshTurns x = new MeshTurns();
        x.mesh(2, 2);
        x.link(0, MeshTurns.EAST, 0);
        x.link(0, MeshTurns.NORTH, 0);
        x.link(3, MeshTurns.WEST, 0);
        Due.due("the last whole link", x.worstLink(0), 1);
        Due.due("nothing is left without it", x.worstLink(2), 0);
        x.link(3, MeshTurns.SOUTH, 0);
        for (int what = 0; what < 3; what++) {
            Due.due("no link is whole", x.worstLink(what), MeshTurns.NONE);
        }
        Due.due("BAD_VALUE is ahead of NONE", x.worstLink(3), MeshTurns.BAD_VALUE);
    }

    private static void busiest() {
        MeshTurns x = new MeshTurns();
        Due.due("busiest(-1)", x.busiest(-1), MeshTurns.BAD_VALUE);
        Due.due("busiest(3)", x.busiest(3), MeshTurns.BAD_VALUE);
        for (int what = 0; what < 3; what++) {
            Due.due("no move", x.busiest(what), MeshTurns.NONE);
        }
        x.set(MeshTurns.ROOM, 4);
        x.send(15, 11);
        x.send(15, 11);
        x.send(1, 0);
        x.ticks(1);
        Due.due("no move, only inside", x.busiest(2), MeshTurns.NONE);
        x.ticks(1);
        Due.due("the box", x.busiest(0), 15);
        Due.due("the side", x.busiest(1), MeshTurns.SOUTH);
        Due.due("the moves", x.busiest(2), 2);
    }

    private static void busiestOfSeveral() {
        MeshTurns x = new MeshTurns();
        x.set(MeshTurns.ROOM, 4);
        x.send(9, 5);
        x.send(9, 13);
        x.ticks(2);
        Due.due("the box", x.busiest(0), 9);
        Due.due("the lowest side", x.busiest(1), MeshTurns.NORTH);
        x.send(6, 2);
        x.ticks(2);
        Due.due("the lowest box", x.busiest(0), 6);
        Due.due("its side", x.busiest(1), MeshTurns.SOUTH);
        Due.due("one move", x.busiest(2), 1);
        // There and back are two sides of one link.
        x.send(2, 6);
        x.ticks(2);
        Due.due("the box 2 now", x.busiest(0), 2);
        Due.due("one move still", x.busiest(2), 1);
        x.send(0, 1);
        x.ticks(2);
        Due.due("box 0 now", x.busiest(0), 0);
        Due.due("to the east", x.busiest(1), MeshTurns.EAST);
        Due.due("one move as before", x.busiest(2), 1);
    }

    private static void arrivesIn() {
        MeshTurns x = new MeshTurns();
        Due.due("no packet", x.arrivesIn(0), MeshTurns.NO_SUCH);
        x.send(0, 3);
        x.send(0, 3);
        Due.due("arrivesIn(-1)", x.arrivesIn(-1), MeshTurns.NO_SUCH);
        Due.due("arrivesIn(2)", x.arrivesIn(2), MeshTurns.NO_SUCH);
        Due.due("one tick to come in, three moves", x.arrivesIn(0), 4);
        Due.due("one more behind it", x.arrivesIn(1), 5);
        x.ticks(3);
        Due.due("after three ticks", x.arrivesIn(0), 1);
        x.ticks(1);
        Due.due("arrived", x.arrivesIn(0), 0);
        Due.due("the other one", x.arrivesIn(1), 1);
        x.link(2, MeshTurns.EAST, 0);
        Due.due("never", x.arrivesIn(1), MeshTurns.NONE);
        Due.due("arrived all the same", x.arrivesIn(0), 0);
    }

    private static void arrivedBy() {
        MeshTurns x = new MeshTurns();
        x.send(0, 3);
        x.send(0, 3);
        x.send(4, 5);
        Due.due("arrivedBy(0)", x.arrivedBy(0), MeshTurns.BAD_VALUE);
        Due.due("arrivedBy(301)", x.arrivedBy(301), MeshTurns.BAD_VALUE);
        Due.due("arrivedBy(MIN)", x.arrivedBy(Integer.MIN_VALUE), MeshTurns.BAD_VALUE);
        int[] due = {0, 1, 1, 2, 3, 3};
        for (int i = 0; i < due.length; i++) {
            Due.due("arrivedBy(" + (i + 1) + ")", x.arrivedBy(i + 1), due[i]);
        }
        Due.due("arrivedBy(300)", x.arrivedBy(300), 3);
        x.ticks(2);
        Due.due("those that have arrived count", x.arrivedBy(1), 1);
        x.link(0, MeshTurns.EAST, 0);
        Due.due("one is cut off", x.arrivedBy(300), 2);
    }

    private static void nothingChanges() {
        MeshTurns x = new MeshTurns();
        x.send(0, 15);
        x.send(15, 0);
        x.ticks(2);
        x.arrivesIn(0);
        x.arrivedBy(300);
        x.worstLink(2);
        x.pairs();
        x.ways(0, 15);
        x.busiest(0);
        Due.due("the tick", x.count(0), 2);
        Due.due("the moves", x.count(7), 2);
        Due.due("none has arrived", x.count(6), 0);
        Due.due("no link is broken", x.count(11), 0);
        Due.due("the history", x.count(13), 3);
        Due.due("packet 0", x.ofPacket(0, 3), 1);
        Due.due("its direction", x.ofPacket(0, 11), MeshTurns.EAST);
    }

    /** With one link whole alone, it is the worst one, wherever it is. */
    private static void eachLinkIsTheWorst() {
        for (int box = 0; box < 25; box++) {
            for (int side = 0; side <= 2; side += 2) {
                boolean isLink = side == 0 ? box % 5 < 4 : box < 20;
                if (isLink) {
                    MeshTurns x = new MeshTurns();
                    x.mesh(5, 5);
                    for (int other = 0; other < 25; other++) {
                        x.link(other, MeshTurns.EAST, 0);
                        x.link(other, MeshTurns.NORTH, 0);
                    }
                    x.link(box, side, 1);
                    String at = "link " + box + ", " + side + ": ";
                    Due.due(at + "pairs", x.pairs(), 2);
                    Due.due(at + "box", x.worstLink(0), box);
                    Due.due(at + "side", x.worstLink(1), side);
                    Due.due(at + "left", x.worstLink(2), 0);
                    Due.due(at + "broken links", x.count(11), 39);
                }
            }
        }
    }

    private static void eachSideIsTheBusiest() {
        for (int box = 0; box < 25; box++) {
            int[] beside = {box + 1, box - 1, box + 5, box - 5};
            boolean[] isThere = {box % 5 < 4, box % 5 > 0, box < 20, box >= 5};
            for (int side = 0; side < 4; side++) {
                if (isThere[side]) {
                    MeshTurns x = new MeshTurns();
                    x.mesh(5, 5);
                    x.send(box, beside[side]);
                    x.ticks(2);
                    Due.due("busiest box " + box, x.busiest(0), box);
                    Due.due("busiest side " + side + " of box " + box, x.busiest(1), side);
                    Due.due("one move from box " + box, x.busiest(2), 1);
                }
            }
        }
    }

    /** Three moves from box 5 to three sides are less than two from box 10 to one side. */
    private static void aSideNotABox() {
        MeshTurns x = new MeshTurns();
        x.set(MeshTurns.ROOM, 4);
        x.send(5, 6);
        x.send(5, 4);
        x.send(5, 9);
        x.send(10, 14);
        x.send(10, 14);
        x.ticks(2);
        Due.due("box", x.busiest(0), 10);
        Due.due("side", x.busiest(1), MeshTurns.NORTH);
        Due.due("moves", x.busiest(2), 2);
        x.undo();
        Due.due("no move was made", x.busiest(0), MeshTurns.NONE);
    }

    private static void errorsAheadOfNone() {
        MeshTurns x = new MeshTurns();
        x.mesh(2, 2);
        for (int box = 0; box < 4; box++) {
            for (int side = 0; side < 4; side++) {
                x.link(box, side, 0);
            }
        }
        Due.due("no link is whole", x.count(11), 4);
        Due.due("leastWay(0, 4)", x.leastWay(0, 4), MeshTurns.NO_SUCH);
        Due.due("leastWay(4, 4)", x.leastWay(4, 4), MeshTurns.NO_SUCH);
        Due.due("ways(4, 0)", x.ways(4, 0), MeshTurns.NO_SUCH);
        Due.due("worstLink(3)", x.worstLink(3), MeshTurns.BAD_VALUE);
        Due.due("busiest(3)", x.busiest(3), MeshTurns.BAD_VALUE);
        for (int box = 0; box < 4; box++) {
            Due.due("the same box: no moves", x.leastWay(box, box), 0);
            Due.due("the same box: one way", x.ways(box, box), 1);
            Due.due("another box: no way length", x.leastWay(box, 3 - box), MeshTurns.NONE);
            Due.due("another box: no ways", x.ways(box, 3 - box), 0);
        }
        Due.due("no pairs", x.pairs(), 0);
    }

    private static void alwaysAndNever() {
        MeshTurns x = new MeshTurns();
        x.send(0, 4);
        x.send(0, 1);
        x.send(2, 3);
        x.ticks(2);
        x.undo();
        x.link(0, MeshTurns.NORTH, 0);
        Due.due("never: it has no way", x.arrivesIn(0), MeshTurns.NONE);
        Due.due("never: it stays outside", x.arrivesIn(1), MeshTurns.NONE);
        Due.due("in two ticks", x.arrivesIn(2), 2);
        Due.due("one by tick 300", x.arrivedBy(300), 1);
        Due.due("none by tick 1", x.arrivedBy(1), 0);
        Due.due("one by tick 2", x.arrivedBy(2), 1);
        x.ticks(300);
        Due.due("arrived now", x.arrivesIn(2), 0);
        Due.due("still outside", x.ofPacket(1, 2), MeshTurns.OUTSIDE);
        Due.due("still never", x.arrivesIn(1), MeshTurns.NONE);
    }

    private static void fortyAfterEachOther() {
        MeshTurns x = new MeshTurns();
        for (int packet = 0; packet < 40; packet++) {
            x.send(0, 3);
        }
        // Each comes inside when the one ahead has left, and makes three moves.
        for (int packet = 0; packet < 40; packet++) {
            Due.due("arrivesIn(" + packet + ")", x.arrivesIn(packet), packet + 4);
        }
        for (int ticks = 1; ticks <= 50; ticks++) {
            Due.due("arrivedBy(" + ticks + ")", x.arrivedBy(ticks), Math.min(40, Math.max(0, ticks - 3)));
        }
        Due.due("arrivedBy(300)", x.arrivedBy(300), 40);
        Due.due("no tick has passed", x.count(0), 0);
    }

    /** What is told ahead is what the ticks bring. */
    private static void forecastsComeTrue() {
        MeshTurns x = new MeshTurns();
        x.mesh(4, 3);
        x.set(MeshTurns.RULE, 0);
        x.set(MeshTurns.DETOURS, 2);
        x.link(5, MeshTurns.EAST, 0);
        int[] from = {4, 7, 0, 11, 5, 6, 4, 7};
        int[] to = {7, 4, 11, 0, 6, 5, 6, 5};
        for (int packet = 0; packet < from.length; packet++) {
            x.send(from[packet], to[packet]);
        }
        int[] arrivesIn = new int[from.length];
        for (int packet = 0; packet < from.length; packet++) {
            arrivesIn[packet] = x.arrivesIn(packet);
        }
        for (int ticks = 1; ticks <= 20; ticks++) {
            int due = x.arrivedBy(ticks);
            x.ticks(ticks);
            Due.due("arrived after " + ticks, x.count(6), due);
            for (int packet = 0; packet < from.length; packet++) {
                boolean isThere = arrivesIn[packet] >= 0 && arrivesIn[packet] <= ticks;
                Due.due("packet " + packet + " after " + ticks, x.ofPacket(packet, 2) == MeshTurns.ARRIVED ? 1 : 0, isThere ? 1 : 0);
            }
            x.undo();
        }
    }

    /**
     * Nearly all boxes of a ring are full, and one room goes round in it against the packets, so that about one of them
     * moves in a tick. No state was found in which a packet arrives later than after 255 ticks.
     */
    private static void theLatestArrivalThatWasFound() {
        MeshTurns x = new MeshTurns();
        x.mesh(5, 5);
        x.set(MeshTurns.RULE, 0);
        x.set(MeshTurns.DETOURS, 4);
        Due.write(x, "b5e;b10e;b11e;b12e;b15e;b18e;b1n;b2n;b3n;b7n;b8n;b9n;b16n;b17n;b18n");
        Due.due("fifteen links are broken", x.carryOut(), 15);
        int[] from = {6, 6, 20, 11, 20, 6, 21, 22, 6, 7, 23, 11, 6, 6, 24, 19, 4, 4, 6, 14,
            4, 7, 13, 4, 3, 2, 18, 1, 6, 18, 0, 9, 17, 5, 6, 6, 16, 6, 10, 6};
        int[] to = {8, 7, 12, 8, 4, 11, 9, 4, 7, 11, 9, 8, 7, 20, 3, 0, 20, 21, 7, 0,
            22, 6, 11, 23, 24, 19, 0, 14, 7, 5, 13, 7, 5, 18, 11, 11, 8, 11, 17, 10};
        int[] due = {5, 5, 231, 9, 255, 9, 252, 251, 10, 11, 248, 34, 34, 242, 248, 249, 240, 239, 45, 247,
            238, 3, 75, 237, 236, 235, 245, 234, 46, 244, 233, 6, 242, 232, 47, 48, 70, 70, 231, 241};
        for (int packet = 0; packet < from.length; packet++) {
            Due.due("packet " + packet, x.send(from[packet], to[packet]), packet);
        }
        for (int packet = 0; packet < from.length; packet++) {
            Due.due("late: arrivesIn(" + packet + ")", x.arrivesIn(packet), due[packet]);
        }
        Due.due("all but one", x.arrivedBy(254), 39);
        Due.due("all", x.arrivedBy(255), 40);
        Due.due("all by tick 300", x.arrivedBy(300), 40);
        x.ticks(100);
        Due.due("after a hundred ticks", x.arrivesIn(4), 155);
        x.ticks(154);
        Due.due("the last tick", x.arrivesIn(4), 1);
        x.ticks(1);
        Due.due("it is there", x.arrivesIn(4), 0);
        for (int packet = 0; packet < from.length; packet++) {
            Due.due("the tick in which packet " + packet + " arrived", x.ofPacket(packet, 8), due[packet] - 1);
        }
    }

    /** With all links whole the ways are those of a grid; by the rule there is one alone as soon as it goes east. */
    private static void everyWayOfAWholeMesh() {
        for (int rule = 0; rule <= 1; rule++) {
            for (int from = 0; from < 25; from++) {
                MeshTurns x = new MeshTurns();
                x.mesh(5, 5);
                x.set(MeshTurns.RULE, rule);
                // Each is asked twice, upwards and downwards, so that nothing depends on what was asked ahead of it.
                for (int i = 0; i < 50; i++) {
                    int to = i < 25 ? i : 49 - i;
                    int across = to % 5 - from % 5;
                    int along = Math.abs(to / 5 - from / 5);
                    int due = rule == 1 && across > 0 ? 1 : gridWays(Math.abs(across), along);
                    Due.due("rule " + rule + ": ways(" + from + ", " + to + ")", x.ways(from, to), due);
                }
            }
        }
    }

    private static int gridWays(int across, int along) {
        return across == 0 || along == 0 ? 1 : gridWays(across - 1, along) + gridWays(across, along - 1);
    }
}
