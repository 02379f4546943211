/** Promises 17 to 20: put, wipe, fault, carryOut. */
public final class TextTest {
    public static void main(String[] args) {
        put();
        putErrors();
        putUpToEighty();
        wipe();
        faults();
        carryOut();
        carryOutStops();
        carryOutErrors();
        ordersAreLikeCalls();
        oneChange();
        theLongestText();
        everyLengthOfAPut();
        everyCodeAtEveryPlace();
        upToEightyExactly();
        everySignAtItsPlace();
        everyNumber();
        everyCutAndEveryWrongSign();
        theFirstOfSeveralFaults();
        emptiedInEachCase();
        eachErrorOfAnOrder();
        Due.finish();
    }

    private static void put() {
        MeshTurns x = new MeshTurns();
        Due.due("one character", x.put('t'), 1);
        Due.due("the last one is the lowest", x.put('1' << 8 | ';'), 3);
        Due.due("eight characters", x.put(Due.packed("t2;s0>1;")), 11);
        Due.due("the text is in order", x.fault(), 11);
        Due.due("count(12)", x.count(12), 11);
        Due.due("put is no change", x.count(13), 0);
        x.put(Due.packed("t1"));
        Due.due("carryOut", x.carryOut(), 4);
        Due.due("t1, t2 and t1", x.count(0), 4);
        Due.due("s0>1", x.ofPacket(0, 1), 1);
    }

    private static void putErrors() {
        MeshTurns x = new MeshTurns();
        Due.due("put(0)", x.put(0), MeshTurns.BAD_VALUE);
        Due.due("code 32", x.put(32), MeshTurns.BAD_VALUE);
        Due.due("code 33", x.put(33), 1);
        Due.due("code 126", x.put(126), 2);
        Due.due("code 127", x.put(127), MeshTurns.BAD_VALUE);
        Due.due("code 255", x.put(255), MeshTurns.BAD_VALUE);
        Due.due("no last character", x.put((long) 't' << 8), MeshTurns.BAD_VALUE);
        Due.due("a gap", x.put((long) 't' << 16 | 't'), MeshTurns.BAD_VALUE);
        Due.due("a single bit above the end", x.put(1L << 62 | 't'), MeshTurns.BAD_VALUE);
        Due.due("the highest bit above the end", x.put(Long.MIN_VALUE | 't'), MeshTurns.BAD_VALUE);
        Due.due("all bits", x.put(-1L), MeshTurns.BAD_VALUE);
        Due.due("highest of eight is bad", x.put(Due.packed("tttttttt") & ~(255L << 56) | 200L << 56), MeshTurns.BAD_VALUE);
        Due.due("highest of eight is 32", x.put(Due.packed("tttttttt") & ~(255L << 56) | 32L << 56), MeshTurns.BAD_VALUE);
        Due.due("seven characters", x.put(Due.packed("ttttttt")), 9);
        Due.due("errors change nothing", x.count(12), 9);
    }

    private static void putUpToEighty() {
        MeshTurns x = new MeshTurns();
        for (int i = 1; i <= 9; i++) {
            Due.due("put " + i, x.put(Due.packed("t1;t1;t1")), 8 * i);
        }
        Due.due("79", x.put(Due.packed("t1;t1;t")), 79);
        Due.due("81", x.put(Due.packed("t1")), MeshTurns.TOO_MANY);
        Due.due("BAD_VALUE is ahead of TOO_MANY", x.put(32 << 8 | 't'), MeshTurns.BAD_VALUE);
        Due.due("80", x.put('9'), 80);
        Due.due("one more", x.put('9'), MeshTurns.TOO_MANY);
        Due.due("no more bad ones", x.put(0), MeshTurns.BAD_VALUE);
        Due.due("the length stays", x.count(12), 80);
        Due.due("wipe", x.wipe(), 80);
        Due.due("room again", x.put('9'), 1);
    }

    private static void wipe() {
        MeshTurns x = new MeshTurns();
        Due.due("empty", x.wipe(), 0);
        Due.write(x, "t12");
        Due.due("three", x.wipe(), 3);
        Due.due("empty again", x.wipe(), 0);
        Due.due("count(12)", x.count(12), 0);
        Due.due("wipe is no change", x.count(13), 0);
        Due.due("the fault of nothing", x.fault(), 0);
        Due.write(x, "t5");
        Due.due("the new text alone", x.carryOut(), 1);
        Due.due("five ticks", x.count(0), 5);
    }

    private static void faultOf(String text, int due) {
        MeshTurns x = new MeshTurns();
        Due.write(x, text);
        Due.due("fault of " + text, x.fault(), due);
        Due.due("the pad stays: " + text, x.count(12), text.length());
        Due.due("fault is no change: " + text, x.count(13), 0);
    }

    private static void faults() {
        String[] good = {"t0", "t1", "t9", "t10", "t99", "s0>0", "s12>3", "s3>12", "s99>99", "b0e", "b10w", "m0n", "m99s",
            "t1;t2", "s1>2;b3e;m3e;t9", "b1s;s1>2"};
        for (String text : good) {
            faultOf(text, MeshTurns.NONE);
        }
        faultOf("", 0);
        String[] early = {"t", "s", "b", "m", "s1", "s12", "s1>", "s0", "b1", "b12", "b0", "m5", "t1;", "t1;s", "t1;s1>2;", "b0e;b"};
        for (String text : early) {
            faultOf(text, text.length());
        }
        faultOf("x", 0);
        faultOf(";", 0);
        faultOf("1", 0);
        faultOf("T1", 0);
        faultOf("e", 0);
        faultOf("te", 1);
        faultOf("t-1", 1);
        faultOf("t01", 2);
        faultOf("t00", 2);
        faultOf("t100", 3);
        faultOf("t999;t", 3);
        faultOf("t1x", 2);
        faultOf("t1>2", 2);
        faultOf("t1e", 2);
        faultOf("s1-2", 2);
        faultOf("s1;", 2);
        faultOf("s>1", 1);
        faultOf("s100>1", 3);
        faultOf("s01>1", 2);
        faultOf("s1>01", 4);
        faultOf("s1>100", 5);
        faultOf("s1>>2", 3);
        faultOf("s1>2>3", 4);
        faultOf("b1", 2);
        faultOf("be", 1);
        faultOf("b1x", 2);
        faultOf("b1;", 2);
        faultOf("b123e", 3);
        faultOf("b1ee", 3);
        faultOf("m1>e", 2);
        faultOf("t1;;t2", 3);
        faultOf("t1,t2", 2);
        faultOf("t1;x", 3);
        faultOf("t1;t2;s3", 8);
        faultOf("x;y", 0);
    }

    private static void carryOut() {
        MeshTurns x = new MeshTurns();
        Due.write(x, "s0>3;b1e;t2;m1e;t99");
        Due.due("carryOut", x.carryOut(), 5);
        Due.due("the pad is empty", x.count(12), 0);
        Due.due("the fault of an empty pad", x.fault(), 0);
        Due.due("ticks", x.count(0), 101);
        Due.due("one arrived", x.count(6), 1);
        // Inside in tick 0; with the link broken it had no way in tick 1.
        Due.due("it waited once", x.ofPacket(0, 6), 1);
        Due.due("arrived", x.ofPacket(0, 8), 4);
        Due.due("all links are whole", x.count(11), 0);
    }

    private static void carryOutStops() {
        MeshTurns x = new MeshTurns();
        Due.write(x, "t3;s0>0;t4");
        Due.due("up to NO_SUCH", x.carryOut(), 1);
        Due.due("three ticks alone", x.count(0), 3);
        Due.due("the pad is empty", x.count(12), 0);
        Due.write(x, "t0;t4");
        Due.due("up to BAD_VALUE", x.carryOut(), 0);
        Due.due("no ticks", x.count(0), 3);
        Due.due("a change all the same", x.count(13), 2);
        Due.write(x, "b0e;s0>1;t4");
        Due.due("up to NOT_POSSIBLE", x.carryOut(), 1);
        Due.due("the link is broken", x.count(11), 1);
        Due.write(x, "m0e;b3e;t4");
        Due.due("up to NO_SUCH of a side", x.carryOut(), 1);
        Due.due("the link is whole", x.count(11), 0);
        Due.write(x, "b99e");
        Due.due("no such box", x.carryOut(), 0);
        Due.write(x, "m16n;t1");
        Due.due("no such box to mend", x.carryOut(), 0);
        // Answers that are no errors go on: a broken link that is broken again.
        Due.write(x, "b0e;b0e;m0e;m0e;t1");
        Due.due("all", x.carryOut(), 5);
        for (int i = 0; i < 40; i++) {
            x.send(0, 1);
        }
        Due.write(x, "t1;s0>1;t1");
        Due.due("up to TOO_MANY", x.carryOut(), 1);
    }

    private static void carryOutErrors() {
        MeshTurns x = new MeshTurns();
        Due.due("an empty pad", x.carryOut(), MeshTurns.BAD_TEXT);
        Due.write(x, "t5;t");
        Due.due("a fault", x.carryOut(), MeshTurns.BAD_TEXT);
        Due.due("the pad stays", x.count(12), 4);
        Due.due("nothing was carried out", x.count(0), 0);
        Due.due("no change", x.count(13), 0);
        Due.write(x, "6");
        Due.due("the fault is mended", x.carryOut(), 2);
        Due.due("eleven ticks", x.count(0), 11);
    }

    private static void ordersAreLikeCalls() {
        MeshTurns x = new MeshTurns();
        Due.write(x, "b5e;b5w;b5n;b5s;m5n");
        Due.due("carryOut", x.carryOut(), 5);
        int[] whole = {0, 0, 1, 0};
        for (int side = 0; side < 4; side++) {
            Due.due("side " + side, x.ofBox(5, 3 + side), whole[side]);
        }
        Due.write(x, "t10;s15>0");
        Due.due("carryOut", x.carryOut(), 2);
        Due.due("from", x.ofPacket(0, 0), 15);
        Due.due("to", x.ofPacket(0, 1), 0);
        Due.due("sent in", x.ofPacket(0, 7), 10);
    }

    private static void oneChange() {
        MeshTurns x = new MeshTurns();
        x.set(MeshTurns.ROOM, 2);
        Due.write(x, "t1;s0>1;b5e;t7");
        Due.due("carryOut", x.carryOut(), 4);
        Due.due("one change", x.count(13), 2);
        Due.write(x, "t1");
        Due.due("undo", x.undo(), 1);
        Due.due("the ticks are undone", x.count(0), 0);
        Due.due("the packet is undone", x.count(3), 0);
        Due.due("the link is undone", x.count(11), 0);
        Due.due("the setting is not", x.count(16), 2);
        Due.due("the pad is as it is", x.count(12), 2);
        Due.due("carryOut", x.carryOut(), 1);
        Due.due("one tick", x.count(0), 1);
    }

    private static void theLongestText() {
        MeshTurns x = new MeshTurns();
        StringBuilder text = new StringBuilder("t9");
        for (int i = 1; i < 26; i++) {
            text.append(";t9");
        }
        text.append(";t");
        Due.due("79 characters", Due.write(x, text.toString()), 79);
        Due.due("too early", x.fault(), 79);
        Due.due("one digit more", x.put('1'), 80);
        Due.due("no fault", x.fault(), MeshTurns.NONE);
        Due.due("27 orders", x.carryOut(), 27);
        Due.due("the ticks", x.count(0), 26 * 9 + 1);
        Due.write(x, text.substring(0, 77) + "9;");
        Due.due("80 characters", x.put(';'), 80);
        Due.due("a ; behind a ;", x.fault(), 79);
        x.wipe();
        Due.write(x, "b0e" + text.substring(2, 77) + "9");
        Due.due("80 characters", x.put(';'), 80);
        Due.due("too early, though the pad is full", x.fault(), 80);
    }

    private static void everyLengthOfAPut() {
        for (int length = 1; length <= 8; length++) {
            MeshTurns x = new MeshTurns();
            Due.due(length + " characters", x.put(Due.packed("t12;t34;".substring(0, length))), length);
            Due.due(length + " characters on the pad", x.count(12), length);
            Due.due(length + " characters wiped", x.wipe(), length);
        }
    }

    /** Eight signs, one of which is replaced: the place 0 is the last character. */
    private static void everyCodeAtEveryPlace() {
        long eight = Due.packed("tttttttt");
        for (int place = 0; place < 8; place++) {
            MeshTurns x = new MeshTurns();
            for (int code : new int[] {1, 31, 32, 127, 128, 200, 255}) {
                long characters = eight & ~(255L << 8 * place) | (long) code << 8 * place;
                Due.due("code " + code + " at place " + place, x.put(characters), MeshTurns.BAD_VALUE);
            }
            long gap = eight & ~(255L << 8 * place);
            Due.due("no code at place " + place, x.put(gap), place == 7 ? 7 : MeshTurns.BAD_VALUE);
            x.wipe();
            for (int code : new int[] {33, 126}) {
                long characters = eight & ~(255L << 8 * place) | (long) code << 8 * place;
                Due.due("code " + code + " at place " + place, x.put(characters), 8);
                x.wipe();
            }
            // One character, and a single bit somewhere above the 8 bits that are 0.
            for (int bit = 8 * place + 16; bit < 64; bit++) {
                long characters = eight & (1L << 8 * place + 8) - 1 | 1L << bit;
                Due.due("bit " + bit + " above " + (place + 1) + " characters", x.put(characters), MeshTurns.BAD_VALUE);
            }
            Due.due("nothing was appended", x.count(12), 0);
        }
    }

    private static void upToEightyExactly() {
        for (int ahead = 70; ahead <= 80; ahead++) {
            for (int more = 1; more <= 8; more++) {
                MeshTurns x = new MeshTurns();
                Due.write(x, "t".repeat(ahead));
                int due = ahead + more <= 80 ? ahead + more : MeshTurns.TOO_MANY;
                Due.due(more + " behind " + ahead, x.put(Due.packed("t".repeat(more))), due);
                Due.due(more + " behind " + ahead + ": length", x.count(12), due < 0 ? ahead : due);
            }
        }
    }

    /** Behind a beginning, which character is the end of a text, which can go on, and which can't stand there. */
    private static void everySignAfter(String ahead, String ends, String goesOn) {
        for (char sign = 33; sign <= 126; sign++) {
            int due = ahead.length();
            if (ends.indexOf(sign) >= 0) {
                due = MeshTurns.NONE;
            } else if (goesOn.indexOf(sign) >= 0) {
                due = ahead.length() + 1;
            }
            faultOf(ahead + sign, due);
        }
    }

    private static void everySignAtItsPlace() {
        String digits = "0123456789";
        everySignAfter("", "", "sbmt");
        everySignAfter("t", digits, "");
        everySignAfter("t0", "", ";");
        everySignAfter("t9", digits, ";");
        everySignAfter("t99", "", ";");
        everySignAfter("t1;", "", "sbmt");
        everySignAfter("s", "", digits);
        everySignAfter("s0", "", ">");
        everySignAfter("s1", "", ">" + digits);
        everySignAfter("s10", "", ">");
        everySignAfter("s1>", digits, "");
        everySignAfter("s1>0", "", ";");
        everySignAfter("s1>9", digits, ";");
        everySignAfter("s1>10", "", ";");
        for (String kind : new String[] {"b", "m"}) {
            everySignAfter(kind, "", digits);
            everySignAfter(kind + "0", "ewns", "");
            everySignAfter(kind + "5", "ewns", digits);
            everySignAfter(kind + "24", "ewns", "");
            everySignAfter(kind + "5e", "", ";");
            everySignAfter("t1;" + kind + "5s", "", ";");
        }
    }

    private static void everyNumber() {
        for (int number = 0; number <= 1000; number++) {
            String digits = String.valueOf(number);
            faultOf("t" + digits, number <= 99 ? MeshTurns.NONE : 3);
            faultOf("b" + digits + "n", number <= 99 ? MeshTurns.NONE : 3);
            faultOf("s" + digits + ">7", number <= 99 ? MeshTurns.NONE : 3);
            faultOf("s7>" + digits, number <= 99 ? MeshTurns.NONE : 5);
        }
        for (int number = 0; number <= 99; number++) {
            faultOf("t0" + number, 2);
            faultOf("m0" + number + "e", 2);
            faultOf("s5>0" + number, 4);
        }
    }

    private static void everyCutAndEveryWrongSign() {
        String text = "s12>3;b10w;m0n;t99;s0>24;t5";
        // The lengths of its beginnings that are texts themselves.
        String whole = " 5 10 14 17 18 23 24 27 ";
        for (int length = 0; length <= text.length(); length++) {
            faultOf(text.substring(0, length), whole.contains(" " + length + " ") ? MeshTurns.NONE : length);
        }
        for (int place = 0; place < text.length(); place++) {
            faultOf(text.substring(0, place) + "!" + text.substring(place + 1), place);
        }
    }

    /** A fault is told at the first of several characters that cannot stand at their places. */
    private static void theFirstOfSeveralFaults() {
        faultOf("t1!!", 2);
        faultOf("!!", 0);
        faultOf("s1>2;b3e;m4x;t!", 11);
        StringBuilder text = new StringBuilder("t10");
        while (text.length() < 79) {
            text.append(text.length() < 75 ? ";t10" : ";m0e");
        }
        faultOf(text.toString(), MeshTurns.NONE);
        faultOf(text + ";", 80);
        faultOf(text + "e", 79);
    }

    private static void emptiedInEachCase() {
        MeshTurns x = new MeshTurns();
        Due.write(x, "t1;t2");
        x.carryOut();
        Due.due("empty when all were carried out", x.count(12), 0);
        Due.write(x, "t1;t0;t2");
        x.carryOut();
        Due.due("empty when one was", x.count(12), 0);
        Due.write(x, "t0;t1");
        x.carryOut();
        Due.due("empty when none was", x.count(12), 0);
        Due.due("nothing to wipe", x.wipe(), 0);
        Due.due("four ticks", x.count(0), 4);
        Due.due("three changes", x.count(13), 3);
        x.undo();
        Due.due("the pad does not come back", x.count(12), 0);
        Due.due("nothing was different", x.count(0), 4);
        x.undo();
        Due.due("one tick less", x.count(0), 3);
        x.undo();
        Due.due("three ticks less", x.count(0), 0);
    }

    /** Each order that returns an error, between two that do not. */
    private static void eachErrorOfAnOrder() {
        String[] orders = {"t0", "s5>5", "s16>0", "s0>16", "s99>98", "s0>1", "b16e", "b99n", "b3e", "b4w", "b12n", "b0s", "m16e",
            "m99s", "m3e", "m4w", "m15n", "m1s"};
        for (String order : orders) {
            MeshTurns x = new MeshTurns();
            x.link(0, MeshTurns.EAST, 0);
            Due.write(x, "t7;" + order + ";t9");
            Due.due(order + ": no fault", x.fault(), MeshTurns.NONE);
            Due.due(order + ": one carried out", x.carryOut(), 1);
            Due.due(order + ": seven ticks", x.count(0), 7);
            Due.due(order + ": no packet", x.count(3), 0);
            Due.due(order + ": one broken link", x.count(11), 1);
            Due.due(order + ": the pad is empty", x.count(12), 0);
            Due.due(order + ": one change more", x.count(13), 2);
        }
        MeshTurns x = new MeshTurns();
        Due.write(x, "t1;t99;b0e;b0e;m0e;m0e;s0>1;s15>0");
        Due.due("orders that return none", x.carryOut(), 8);
        Due.due("a hundred ticks", x.count(0), 100);
        Due.due("two packets", x.count(3), 2);
    }
}
