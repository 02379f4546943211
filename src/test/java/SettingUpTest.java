/** Promises 1 to 4: a new object, set, mesh, link. */
public final class SettingUpTest {
    public static void main(String[] args) {
        newObject();
        set();
        setIsSeenAtOnce();
        mesh();
        meshKeepsTheRest();
        link();
        linkErrors();
        linksOnEverySide();
        objectsAreApart();
        everyValueOfEverySetting();
        meshAfterARestore();
        meshOfTheSameSize();
        Due.finish();
    }

    private static void newObject() {
        MeshTurns x = new MeshTurns();
        int[] due = {0, 16, 4, 0, 0, 0, 0, 0, 0, 0, 0, 0, 0, 0, 1, 0, 1};
        for (int what = 0; what < due.length; what++) {
            Due.due("new: count(" + what + ")", x.count(what), due[what]);
        }
        Due.due("new: pairs", x.pairs(), 240);
        for (int box = 0; box < 16; box++) {
            for (int what = 0; what < 3; what++) {
                Due.due("new: ofBox(" + box + ", " + what + ")", x.ofBox(box, what), 0);
            }
            Due.due("new: east of " + box, x.ofBox(box, 3), box % 4 == 3 ? MeshTurns.NONE : 1);
            Due.due("new: west of " + box, x.ofBox(box, 4), box % 4 == 0 ? MeshTurns.NONE : 1);
            Due.due("new: north of " + box, x.ofBox(box, 5), box >= 12 ? MeshTurns.NONE : 1);
            Due.due("new: south of " + box, x.ofBox(box, 6), box < 4 ? MeshTurns.NONE : 1);
        }
        Due.due("new: ofPacket", x.ofPacket(0, 0), MeshTurns.NO_SUCH);
        Due.due("new: fault", x.fault(), 0);
        Due.due("new: undo", x.undo(), MeshTurns.NOT_POSSIBLE);
        Due.due("new: restore", x.restore(0), MeshTurns.NOT_POSSIBLE);
        Due.due("new: busiest", x.busiest(0), MeshTurns.NONE);
    }

    private static void set() {
        int[] least = {0, 0, 1};
        int[] most = {1, 4, 4};
        int[] first = {1, 0, 1};
        for (int setting = 0; setting < 3; setting++) {
            MeshTurns x = new MeshTurns();
            String call = "set(" + setting;
            Due.due(call + ", too low)", x.set(setting, least[setting] - 1), MeshTurns.BAD_VALUE);
            Due.due(call + ", too high)", x.set(setting, most[setting] + 1), MeshTurns.BAD_VALUE);
            Due.due(call + ", lowest int)", x.set(setting, Integer.MIN_VALUE), MeshTurns.BAD_VALUE);
            Due.due(call + ", highest int)", x.set(setting, Integer.MAX_VALUE), MeshTurns.BAD_VALUE);
            Due.due("no change after errors", x.count(13), 0);
            Due.due(call + ", least)", x.set(setting, least[setting]), first[setting]);
            Due.due(call + ", most)", x.set(setting, most[setting]), least[setting]);
            Due.due(call + ", most) again", x.set(setting, most[setting]), most[setting]);
            Due.due(call + ") seen", x.count(14 + setting), most[setting]);
            Due.due("a change each, also if nothing is different", x.count(13), 3);
            Due.due("undo the set", x.undo(), 2);
            Due.due("undo the set", x.undo(), 1);
            Due.due("setting after undo", x.count(14 + setting), least[setting]);
        }
        MeshTurns x = new MeshTurns();
        Due.due("set(-1, 1)", x.set(-1, 1), MeshTurns.BAD_VALUE);
        Due.due("set(3, 1)", x.set(3, 1), MeshTurns.BAD_VALUE);
        Due.due("set(MAX, 1)", x.set(Integer.MAX_VALUE, 1), MeshTurns.BAD_VALUE);
        Due.due("set(MIN, 1)", x.set(Integer.MIN_VALUE, 1), MeshTurns.BAD_VALUE);
    }

    private static void setIsSeenAtOnce() {
        MeshTurns x = new MeshTurns();
        // Box 0 to box 1 with the link between them broken: north, east, south is three moves.
        x.link(0, MeshTurns.EAST, 0);
        Due.due("no way by the rule", x.leastWay(0, 1), MeshTurns.NONE);
        x.set(MeshTurns.RULE, 0);
        Due.due("no way without a detour", x.leastWay(0, 1), MeshTurns.NONE);
        x.set(MeshTurns.DETOURS, 1);
        Due.due("a way with a detour", x.leastWay(0, 1), 3);
        x.set(MeshTurns.RULE, 1);
        Due.due("no way by the rule again", x.leastWay(0, 1), MeshTurns.NONE);
    }

    private static void mesh() {
        for (int columns = 2; columns <= 5; columns++) {
            for (int rows = 2; rows <= 5; rows++) {
                MeshTurns x = new MeshTurns();
                x.link(0, MeshTurns.EAST, 0);
                String call = "mesh(" + columns + ", " + rows + ")";
                Due.due(call, x.mesh(columns, rows), columns * rows);
                Due.due(call + ": boxes", x.count(1), columns * rows);
                Due.due(call + ": columns", x.count(2), columns);
                Due.due(call + ": links are whole", x.count(11), 0);
                Due.due(call + ": north of box 0", x.leastWay(0, columns), 1);
                Due.due(call + ": last box", x.leastWay(0, columns * rows - 1), columns + rows - 2);
                Due.due(call + ": no more boxes", x.leastWay(0, columns * rows), MeshTurns.NO_SUCH);
            }
        }
        MeshTurns x = new MeshTurns();
        int[] bad = {Integer.MIN_VALUE, -1, 0, 1, 6, Integer.MAX_VALUE};
        for (int value : bad) {
            Due.due("mesh(" + value + ", 3)", x.mesh(value, 3), MeshTurns.BAD_VALUE);
            Due.due("mesh(3, " + value + ")", x.mesh(3, value), MeshTurns.BAD_VALUE);
        }
        Due.due("errors change nothing", x.count(1), 16);
        x.send(0, 1);
        Due.due("mesh after a send", x.mesh(3, 3), MeshTurns.NOT_POSSIBLE);
        Due.due("BAD_VALUE is ahead of NOT_POSSIBLE", x.mesh(1, 3), MeshTurns.BAD_VALUE);
        x.ticks(5);
        Due.due("mesh after all arrived", x.mesh(3, 3), MeshTurns.NOT_POSSIBLE);
        x.undo();
        x.undo();
        Due.due("mesh after the send was undone", x.mesh(3, 3), 9);
    }

    private static void meshKeepsTheRest() {
        MeshTurns x = new MeshTurns();
        x.set(MeshTurns.ROOM, 3);
        x.ticks(7);
        Due.write(x, "t1");
        x.mesh(2, 5);
        Due.due("mesh keeps the tick", x.count(0), 7);
        Due.due("mesh keeps the settings", x.count(16), 3);
        Due.due("mesh keeps the pad", x.count(12), 2);
        Due.due("mesh is a change", x.count(13), 3);
        x.undo();
        Due.due("mesh undone", x.count(1), 16);
    }

    private static void link() {
        MeshTurns x = new MeshTurns();
        Due.due("break", x.link(5, MeshTurns.NORTH, 0), 1);
        Due.due("break again", x.link(5, MeshTurns.NORTH, 0), 0);
        Due.due("from the other side it is broken, too", x.ofBox(9, 6), 0);
        Due.due("seen from its own side", x.ofBox(5, 5), 0);
        Due.due("one broken link", x.count(11), 1);
        Due.due("make it whole from the other side", x.link(9, MeshTurns.SOUTH, 1), 0);
        Due.due("make it whole again", x.link(9, MeshTurns.SOUTH, 1), 1);
        Due.due("whole", x.ofBox(5, 5), 1);
        Due.due("no broken link", x.count(11), 0);
        Due.due("each one is a change", x.count(13), 4);
    }

    private static void linkErrors() {
        MeshTurns x = new MeshTurns();
        Due.due("link(-1, 0, 0)", x.link(-1, 0, 0), MeshTurns.NO_SUCH);
        Due.due("link(16, 0, 0)", x.link(16, 0, 0), MeshTurns.NO_SUCH);
        Due.due("link(MAX, 0, 0)", x.link(Integer.MAX_VALUE, 0, 0), MeshTurns.NO_SUCH);
        Due.due("link(3, EAST, 0)", x.link(3, MeshTurns.EAST, 0), MeshTurns.NO_SUCH);
        Due.due("link(4, WEST, 0)", x.link(4, MeshTurns.WEST, 0), MeshTurns.NO_SUCH);
        Due.due("link(12, NORTH, 0)", x.link(12, MeshTurns.NORTH, 0), MeshTurns.NO_SUCH);
        Due.due("link(3, SOUTH, 0)", x.link(3, MeshTurns.SOUTH, 0), MeshTurns.NO_SUCH);
        Due.due("link(0, 4, 0)", x.link(0, 4, 0), MeshTurns.BAD_VALUE);
        Due.due("link(0, -1, 0)", x.link(0, -1, 0), MeshTurns.BAD_VALUE);
        Due.due("link(0, MIN, 0)", x.link(0, Integer.MIN_VALUE, 0), MeshTurns.BAD_VALUE);
        Due.due("link(0, EAST, 2)", x.link(0, MeshTurns.EAST, 2), MeshTurns.BAD_VALUE);
        Due.due("link(0, EAST, -1)", x.link(0, MeshTurns.EAST, -1), MeshTurns.BAD_VALUE);
        Due.due("NO_SUCH of the box is ahead of BAD_VALUE", x.link(16, 9, 9), MeshTurns.NO_SUCH);
        Due.due("NO_SUCH of the side is ahead of BAD_VALUE", x.link(0, MeshTurns.WEST, 2), MeshTurns.NO_SUCH);
        Due.due("errors change nothing", x.count(11), 0);
        Due.due("errors record nothing", x.count(13), 0);
    }

    private static void linksOnEverySide() {
        MeshTurns x = new MeshTurns();
        x.mesh(3, 3);
        // The four links of the box in the middle, each broken from there, and seen from its neighbour.
        int[] neighbour = {5, 3, 7, 1};
        int[] back = {MeshTurns.WEST, MeshTurns.EAST, MeshTurns.SOUTH, MeshTurns.NORTH};
        for (int side = 0; side < 4; side++) {
            Due.due("break side " + side, x.link(4, side, 0), 1);
            Due.due("broken behind side " + side, x.ofBox(neighbour[side], 3 + back[side]), 0);
            Due.due("broken so far", x.count(11), side + 1);
        }
        for (int side = 0; side < 4; side++) {
            Due.due("mend side " + side, x.link(neighbour[side], back[side], 1), 0);
            Due.due("whole at side " + side, x.ofBox(4, 3 + side), 1);
        }
        Due.due("all are whole", x.count(11), 0);
    }

    private static void objectsAreApart() {
        MeshTurns x = new MeshTurns();
        MeshTurns y = new MeshTurns();
        x.mesh(5, 5);
        x.set(MeshTurns.ROOM, 4);
        x.send(0, 24);
        x.ticks(3);
        x.save(0);
        x.put('t');
        int[] due = {0, 16, 4, 0, 0, 0, 0, 0, 0, 0, 0, 0, 0, 0, 1, 0, 1};
        for (int what = 0; what < due.length; what++) {
            Due.due("the other object: count(" + what + ")", y.count(what), due[what]);
            Due.due("a third one: count(" + what + ")", new MeshTurns().count(what), due[what]);
        }
        Due.due("the other object: restore(0)", y.restore(0), MeshTurns.NOT_POSSIBLE);
        Due.due("the first one has it all", x.count(0), 3);
    }

    private static void everyValueOfEverySetting() {
        int[] least = {0, 0, 1};
        int[] most = {1, 4, 4};
        int[] first = {1, 0, 1};
        for (int setting = 0; setting < 3; setting++) {
            MeshTurns x = new MeshTurns();
            int before = first[setting];
            for (int value = -3; value <= 8; value++) {
                boolean isGood = value >= least[setting] && value <= most[setting];
                String call = "set(" + setting + ", " + value + ")";
                Due.due(call, x.set(setting, value), isGood ? before : MeshTurns.BAD_VALUE);
                before = isGood ? value : before;
                Due.due(call + " seen", x.count(14 + setting), before);
            }
            for (int other = 0; other < 3; other++) {
                Due.due("setting " + other + " then", x.count(14 + other), other == setting ? most[other] : first[other]);
            }
        }
    }

    /** "If a packet was ever sent": what a slot or the history brings back was, or was not. */
    private static void meshAfterARestore() {
        MeshTurns x = new MeshTurns();
        x.save(0);
        x.send(0, 1);
        x.save(1);
        Due.due("with a packet", x.mesh(3, 3), MeshTurns.NOT_POSSIBLE);
        x.restore(0);
        Due.due("restored without one", x.mesh(3, 3), 9);
        x.restore(1);
        Due.due("16 boxes again", x.count(1), 16);
        Due.due("restored with one", x.mesh(3, 3), MeshTurns.NOT_POSSIBLE);
        x.undo();
        Due.due("the restore undone", x.mesh(2, 5), 10);
    }

    private static void meshOfTheSameSize() {
        MeshTurns x = new MeshTurns();
        x.link(5, MeshTurns.EAST, 0);
        Due.due("mesh(4, 4)", x.mesh(4, 4), 16);
        Due.due("all links are whole", x.count(11), 0);
        Due.due("mesh(4, 4) once more", x.mesh(4, 4), 16);
        Due.due("each is a change", x.count(13), 3);
        x.undo();
        x.undo();
        Due.due("the link is broken again", x.ofBox(5, 3), 0);
    }
}
