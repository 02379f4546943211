/** Promises 17 to 20: put, wipe, fault, carryOut. */
public final class TextTest {
    public static void main(String[] args) {
        put();
        putErrors();
        putUpToEighty();
        wipe();
        faults();
        carryOut();
        carryOutStops();
        carryOutErrors();
        ordersAreLikeCalls();
        oneChange();
        theLongestText();
        Due.finish();
    }

    private static void put() {
        MeshTurns x = new MeshTurns();
        Due.due("one character", x.put('t'), 1);
        Due.due("the last one is the lowest", x.put('1' << 8 | ';'), 3);
        Due.due("eight characters", x.put(Due.packed("t2;s0>1;")), 11);
        Due.due("the text is in order", x.fault(), 11);
        Due.due("count(12)", x.count(12), 11);
        Due.due("put is no change", x.count(13), 0);
        x.put(Due.packed("t1"));
        Due.due("carryOut", x.carryOut(), 4);
        Due.due("t1, t2 and t1", x.count(0), 4);
        Due.due("s0>1", x.ofPacket(0, 1), 1);
    }

    private static void putErrors() {
        MeshTurns x = new MeshTurns();
        Due.due("put(0)", x.put(0), MeshTurns.BAD_VALUE);
        Due.due("code 32", x.put(32), MeshTurns.BAD_VALUE);
        Due.due("code 33", x.put(33), 1);
        Due.due("code 126", x.put(126), 2);
        Due.due("code 127", x.put(127), MeshTurns.BAD_VALUE);
        Due.due("code 255", x.put(255), MeshTurns.BAD_VALUE);
        Due.due("no last character", x.put((long) 't' << 8), MeshTurns.BAD_VALUE);
        Due.due("a gap", x.put((long) 't' << 16 | 't'), MeshTurns.BAD_VALUE);
        Due.due("a single bit above the end", x.put(1L << 62 | 't'), MeshTurns.BAD_VALUE);
        Due.due("the highest bit above the end", x.put(Long.MIN_VALUE | 't'), MeshTurns.BAD_VALUE);
        Due.due("all bits", x.put(-1L), MeshTurns.BAD_VALUE);
        Due.due("highest of eight is bad", x.put(Due.packed("tttttttt") & ~(255L << 56) | 200L << 56), MeshTurns.BAD_VALUE);
        Due.due("highest of eight is 32", x.put(Due.packed("tttttttt") & ~(255L << 56) | 32L << 56), MeshTurns.BAD_VALUE);
        Due.due("seven characters", x.put(Due.packed("ttttttt")), 9);
        Due.due("errors change nothing", x.count(12), 9);
    }

    private static void putUpToEighty() {
        MeshTurns x = new MeshTurns();
        for (int i = 1; i <= 9; i++) {
            Due.due("put " + i, x.put(Due.packed("t1;t1;t1")), 8 * i);
        }
        Due.due("79", x.put(Due.packed("t1;t1;t")), 79);
        Due.due("81", x.put(Due.packed("t1")), MeshTurns.TOO_MANY);
        Due.due("BAD_VALUE is ahead of TOO_MANY", x.put(32 << 8 | 't'), MeshTurns.BAD_VALUE);
        Due.due("80", x.put('9'), 80);
        Due.due("one more", x.put('9'), MeshTurns.TOO_MANY);
        Due.due("no more bad ones", x.put(0), MeshTurns.BAD_VALUE);
        Due.due("the length stays", x.count(12), 80);
        Due.due("wipe", x.wipe(), 80);
        Due.due("room again", x.put('9'), 1);
    }

    private static void wipe() {
        MeshTurns x = new MeshTurns();
        Due.due("empty", x.wipe(), 0);
        Due.write(x, "t12");
        Due.due("three", x.wipe(), 3);
        Due.due("empty again", x.wipe(), 0);
        Due.due("count(12)", x.count(12), 0);
        Due.due("wipe is no change", x.count(13), 0);
        Due.due("the fault of nothing", x.fault(), 0);
        Due.write(x, "t5");
        Due.due("the new text alone", x.carryOut(), 1);
        Due.due("five ticks", x.count(0), 5);
    }

    private static void faultOf(String text, int due) {
        MeshTurns x = new MeshTurns();
        Due.write(x, text);
        Due.due("fault of " + text, x.fault(), due);
        Due.due("the pad stays: " + text, x.count(12), text.length());
        Due.due("fault is no change: " + text, x.count(13), 0);
    }

    private static void faults() {
        String[] good = {"t0", "t1", "t9", "t10", "t99", "s0>0", "s12>3", "s3>12", "s99>99", "b0e", "b10w", "m0n", "m99s",
            "t1;t2", "s1>2;b3e;m3e;t9", "b1s;s1>2"};
        for (String text : good) {
            faultOf(text, MeshTurns.NONE);
        }
        faultOf("", 0);
        String[] early = {"t", "s", "b", "m", "s1", "s12", "s1>", "s0", "b1", "b12", "b0", "m5", "t1;", "t1;s", "t1;s1>2;", "b0e;b"};
        for (String text : early) {
            faultOf(text, text.length());
        }
        faultOf("x", 0);
        faultOf(";", 0);
        faultOf("1", 0);
        faultOf("T1", 0);
        faultOf("e", 0);
        faultOf("te", 1);
        faultOf("t-1", 1);
        faultOf("t01", 2);
        faultOf("t00", 2);
        faultOf("t100", 3);
        faultOf("t999;t", 3);
        faultOf("t1x", 2);
        faultOf("t1>2", 2);
        faultOf("t1e", 2);
        faultOf("s1-2", 2);
        faultOf("s1;", 2);
        faultOf("s>1", 1);
        faultOf("s100>1", 3);
        faultOf("s01>1", 2);
        faultOf("s1>01", 4);
        faultOf("s1>100", 5);
        faultOf("s1>>2", 3);
        faultOf("s1>2>3", 4);
        faultOf("b1", 2);
        faultOf("be", 1);
        faultOf("b1x", 2);
        faultOf("b1;", 2);
        faultOf("b123e", 3);
        faultOf("b1ee", 3);
        faultOf("m1>e", 2);
        faultOf("t1;;t2", 3);
        faultOf("t1,t2", 2);
        faultOf("t1;x", 3);
        faultOf("t1;t2;s3", 8);
        faultOf("x;y", 0);
    }

    private static void carryOut() {
        MeshTurns x = new MeshTurns();
        Due.write(x, "s0>3;b1e;t2;m1e;t99");
        Due.due("carryOut", x.carryOut(), 5);
        Due.due("the pad is empty", x.count(12), 0);
        Due.due("the fault of an empty pad", x.fault(), 0);
        Due.due("ticks", x.count(0), 101);
        Due.due("one arrived", x.count(6), 1);
        // Inside in tick 0; with the link broken it had no way in tick 1.
        Due.due("it waited once", x.ofPacket(0, 6), 1);
        Due.due("arrived", x.ofPacket(0, 8), 4);
        Due.due("all links are whole", x.count(11), 0);
    }

    private static void carryOutStops() {
        MeshTurns x = new MeshTurns();
        Due.write(x, "t3;s0>0;t4");
        Due.due("up to NO_SUCH", x.carryOut(), 1);
        Due.due("three ticks alone", x.count(0), 3);
        Due.due("the pad is empty", x.count(12), 0);
        Due.write(x, "t0;t4");
        Due.due("up to BAD_VALUE", x.carryOut(), 0);
        Due.due("no ticks", x.count(0), 3);
        Due.due("a change all the same", x.count(13), 2);
        Due.write(x, "b0e;s0>1;t4");
        Due.due("up to NOT_POSSIBLE", x.carryOut(), 1);
        Due.due("the link is broken", x.count(11), 1);
        Due.write(x, "m0e;b3e;t4");
        Due.due("up to NO_SUCH of a side", x.carryOut(), 1);
        Due.due("the link is whole", x.count(11), 0);
        Due.write(x, "b99e");
        Due.due("no such box", x.carryOut(), 0);
        Due.write(x, "m16n;t1");
        Due.due("no such box to mend", x.carryOut(), 0);
        // Answers that are no errors go on: a broken link that is broken again.
        Due.write(x, "b0e;b0e;m0e;m0e;t1");
        Due.due("all", x.carryOut(), 5);
        for (int i = 0; i < 40; i++) {
            x.send(0, 1);
        }
        Due.write(x, "t1;s0>1;t1");
        Due.due("up to TOO_MANY", x.carryOut(), 1);
    }

    private static void carryOutErrors() {
        MeshTurns x = new MeshTurns();
        Due.due("an empty pad", x.carryOut(), MeshTurns.BAD_TEXT);
        Due.write(x, "t5;t");
        Due.due("a fault", x.carryOut(), MeshTurns.BAD_TEXT);
        Due.due("the pad stays", x.count(12), 4);
        Due.due("nothing was carried out", x.count(0), 0);
        Due.due("no change", x.count(13), 0);
        Due.write(x, "6");
        Due.due("the fault is mended", x.carryOut(), 2);
        Due.due("eleven ticks", x.count(0), 11);
    }

    private static void ordersAreLikeCalls() {
        MeshTurns x = new MeshTurns();
        Due.write(x, "b5e;b5w;b5n;b5s;m5n");
        Due.due("carryOut", x.carryOut(), 5);
        int[] whole = {0, 0, 1, 0};
        for (int side = 0; side < 4; side++) {
            Due.due("side " + side, x.ofBox(5, 3 + side), whole[side]);
        }
        Due.write(x, "t10;s15>0");
        Due.due("carryOut", x.carryOut(), 2);
        Due.due("from", x.ofPacket(0, 0), 15);
        Due.due("to", x.ofPacket(0, 1), 0);
        Due.due("sent in", x.ofPacket(0, 7), 10);
    }

    private static void oneChange() {
        MeshTurns x = new MeshTurns();
        x.set(MeshTurns.ROOM, 2);
        Due.write(x, "t1;s0>1;b5e;t7");
        Due.due("carryOut", x.carryOut(), 4);
        Due.due("one change", x.count(13), 2);
        Due.write(x, "t1");
        Due.due("undo", x.undo(), 1);
        Due.due("the ticks are undone", x.count(0), 0);
        Due.due("the packet is undone", x.count(3), 0);
        Due.due("the link is undone", x.count(11), 0);
        Due.due("the setting is not", x.count(16), 2);
        Due.due("the pad is as it is", x.count(12), 2);
        Due.due("carryOut", x.carryOut(), 1);
        Due.due("one tick", x.count(0), 1);
    }

    private static void theLongestText() {
        MeshTurns x = new MeshTurns();
        StringBuilder text = new StringBuilder("t9");
        for (int i = 1; i < 26; i++) {
            text.append(";t9");
        }
        text.append(";t");
        Due.due("79 characters", Due.write(x, text.toString()), 79);
        Due.due("too early", x.fault(), 79);
        Due.due("one digit more", x.put('1'), 80);
        Due.due("no fault", x.fault(), MeshTurns.NONE);
        Due.due("27 orders", x.carryOut(), 27);
        Due.due("the ticks", x.count(0), 26 * 9 + 1);
        Due.write(x, text.substring(0, 77) + "9;");
        Due.due("80 characters", x.put(';'), 80);
        Due.due("a ; behind a ;", x.fault(), 79);
        x.wipe();
        Due.write(x, "b0e" + text.substring(2, 77) + "9");
        Due.due("80 characters", x.put(';'), 80);
        Due.due("too early, though the pad is full", x.fault(), 80);
    }
}
