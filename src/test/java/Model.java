import java.util.ArrayDeque;
import java.util.ArrayList;
import java.util.List;
import java.util.regex.Matcher;
import java.util.regex.Pattern;

/**
 * The document once more, read as literally as can be and without a thought of speed, to compare the
 * program with it. It shares no code and no shortcut with the program: ways are walked forwards with the
 * detours counted, stuck packets are looked for among all sets, and faults by a regular expression.
 */
final class Model {
    private static final int NO_SUCH = -1, BAD_VALUE = -2, BAD_TEXT = -3, TOO_MANY = -4, NOT_POSSIBLE = -5, NONE = -6;
    private static final int[] STEP_X = {1, -1, 0, 0};
    private static final int[] STEP_Y = {0, 0, 1, -1};
    private static final String NUMBER = "(?:0|[1-9][0-9]?)";
    private static final String ORDER = "(?:s" + NUMBER + ">" + NUMBER + "|[bm]" + NUMBER + "[ewns]|t" + NUMBER + ")";
    private static final Pattern TEXT = Pattern.compile(ORDER + "(?:;" + ORDER + ")*");

    private static final class Packet implements Cloneable {
        int from, to, place, x, y, moves, detours, waits, sentIn, arrivedIn = NONE;
        boolean turned;

        Packet copy() {
            try {
                return (Packet) clone();
            } catch (CloneNotSupportedException e) {
                throw new IllegalStateException(e);
            }
        }
    }

    private static final class World {
        int[] settings = {1, 0, 1};
        int columns = 4, rows = 4, tick;
        /** Whether the link to the east (0) and to the north (1) of a box is broken. */
        boolean[][][] broken = new boolean[5][5][2];
        int[][] moved = new int[25][4];
        List<Packet> packets = new ArrayList<>();

        World copy() {
            World other = new World();
            other.settings = settings.clone();
            other.columns = columns;
            other.rows = rows;
            other.tick = tick;
            for (int x = 0; x < 5; x++) {
                for (int y = 0; y < 5; y++) {
                    other.broken[x][y] = broken[x][y].clone();
                }
            }
            for (int box = 0; box < 25; box++) {
                other.moved[box] = moved[box].clone();
            }
            for (Packet packet : packets) {
                other.packets.add(packet.copy());
            }
            return other;
        }
    }

    private World world = new World();
    private final ArrayDeque<World> history = new ArrayDeque<>();
    private final World[] slots = new World[2];
    private String pad = "";

    // ---- the mesh

    private boolean isBox(int box) {
        return box >= 0 && box < world.columns * world.rows;
    }

    private boolean isPlace(int x, int y) {
        return x >= 0 && x < world.columns && y >= 0 && y < world.rows;
    }

    private int x(int box) {
        return box % world.columns;
    }

    private int y(int box) {
        return box / world.columns;
    }

    private int box(int x, int y) {
        return y * world.columns + x;
    }

    private boolean isBroken(int x, int y, int side) {
        switch (side) {
            case 0: return world.broken[x][y][0];
            case 1: return world.broken[x - 1][y][0];
            case 2: return world.broken[x][y][1];
            default: return world.broken[x][y - 1][1];
        }
    }

    private void setBroken(int x, int y, int side, boolean broken) {
        switch (side) {
            case 0: world.broken[x][y][0] = broken; break;
            case 1: world.broken[x - 1][y][0] = broken; break;
            case 2: world.broken[x][y][1] = broken; break;
            default: world.broken[x][y - 1][1] = broken; break;
        }
    }

    // ---- ways

    /** Whether a packet at (x, y), for which so much is so, may move. */
    private boolean mayMove(int x, int y, int toX, int toY, boolean turned, int detours, int side) {
        int nextX = x + STEP_X[side];
        int nextY = y + STEP_Y[side];
        if (x == toX && y == toY || !isPlace(nextX, nextY) || isBroken(x, y, side)) {
            return false;
        }
        if (world.settings[0] == 1 && turned && side == 0) {
            return false;
        }
        return !isDetour(nextX, nextY, x, y, toX, toY) || detours < world.settings[1];
    }

    private static boolean isDetour(int nextX, int nextY, int x, int y, int toX, int toY) {
        return Math.abs(nextX - toX) + Math.abs(nextY - toY) >= Math.abs(x - toX) + Math.abs(y - toY);
    }

    /** The least moves and the number of ways with them, or {NONE, 0}. */
    private long[] search(int startX, int startY, int toX, int toY, boolean startTurned, int startDetours) {
        int most = Math.max(world.settings[1], startDetours) + 1;
        long[][][][] here = new long[5][5][2][most];
        here[startX][startY][startTurned ? 1 : 0][startDetours] = 1;
        for (int moves = 0; moves <= 60; moves++) {
            long arrived = 0;
            for (int turned = 0; turned < 2; turned++) {
                for (int detours = 0; detours < most; detours++) {
                    arrived += here[toX][toY][turned][detours];
                }
            }
            if (arrived > 0) {
                return new long[] {moves, arrived};
            }
            long[][][][] next = new long[5][5][2][most];
            boolean any = false;
            for (int x = 0; x < world.columns; x++) {
                for (int y = 0; y < world.rows; y++) {
                    for (int turned = 0; turned < 2; turned++) {
                        for (int detours = 0; detours < most; detours++) {
                            if (here[x][y][turned][detours] > 0) {
                                any = true;
                                stepAll(next, x, y, toX, toY, turned, detours, here[x][y][turned][detours]);
                            }
                        }
                    }
                }
            }
            if (!any) {
                break;
            }
            here = next;
        }
        return new long[] {NONE, 0};
    }

    private void stepAll(long[][][][] next, int x, int y, int toX, int toY, int turned, int detours, long ways) {
        for (int side = 0; side < 4; side++) {
            if (mayMove(x, y, toX, toY, turned == 1, detours, side)) {
                int nextX = x + STEP_X[side];
                int nextY = y + STEP_Y[side];
                int detoursThen = detours + (isDetour(nextX, nextY, x, y, toX, toY) ? 1 : 0);
                int turnedThen = side == 0 ? turned : 1;
                next[nextX][nextY][turnedThen][detoursThen] += ways;
            }
        }
    }

    private int wayLength(int from, int to) {
        return (int) search(x(from), y(from), x(to), y(to), false, 0)[0];
    }

    private int wayLength(Packet p) {
        return (int) search(p.x, p.y, x(p.to), y(p.to), p.turned, p.detours)[0];
    }

    /** The possible directions in their order. */
    private List<Integer> directions(Packet p) {
        List<int[]> found = new ArrayList<>();
        for (int side = 0; side < 4; side++) {
            if (mayMove(p.x, p.y, x(p.to), y(p.to), p.turned, p.detours, side)) {
                Packet then = p.copy();
                moveTo(then, side);
                int length = wayLength(then);
                if (length != NONE) {
                    found.add(new int[] {length, side});
                }
            }
        }
        found.sort((a, b) -> a[0] != b[0] ? Integer.compare(a[0], b[0]) : Integer.compare(a[1], b[1]));
        List<Integer> sides = new ArrayList<>();
        for (int[] one : found) {
            sides.add(one[1]);
        }
        return sides;
    }

    private void moveTo(Packet p, int side) {
        int nextX = p.x + STEP_X[side];
        int nextY = p.y + STEP_Y[side];
        if (isDetour(nextX, nextY, p.x, p.y, x(p.to), y(p.to))) {
            p.detours++;
        }
        p.turned |= side != 0;
        p.moves++;
        p.x = nextX;
        p.y = nextY;
    }

    // ---- packets

    private int countAt(int place, int box) {
        int found = 0;
        for (Packet p : world.packets) {
            if (p.place == place && box(p.x, p.y) == box) {
                found++;
            }
        }
        return found;
    }

    private boolean hasRoom(int box) {
        return countAt(1, box) < world.settings[2];
    }

    private void passTick() {
        for (Packet p : world.packets) {
            if (p.place == 0) {
                if (hasRoom(box(p.x, p.y))) {
                    p.place = 1;
                } else {
                    p.waits++;
                }
            } else if (p.place == 1) {
                actInside(p);
            }
        }
        world.tick++;
    }

    private void actInside(Packet p) {
        for (int side : directions(p)) {
            int next = box(p.x + STEP_X[side], p.y + STEP_Y[side]);
            if (next == p.to || hasRoom(next)) {
                world.moved[box(p.x, p.y)][side]++;
                moveTo(p, side);
                if (next == p.to) {
                    p.place = 2;
                    p.arrivedIn = world.tick;
                }
                return;
            }
        }
        p.waits++;
    }

    // ---- stuck packets

    /** For each packet that is inside, the boxes of its possible directions. */
    private List<List<Integer>> wanted(List<Integer> inside) {
        List<List<Integer>> wanted = new ArrayList<>();
        for (int i : inside) {
            Packet p = world.packets.get(i);
            List<Integer> boxes = new ArrayList<>();
            for (int side : directions(p)) {
                boxes.add(box(p.x + STEP_X[side], p.y + STEP_Y[side]));
            }
            wanted.add(boxes);
        }
        return wanted;
    }

    /** The union of all sets for which it holds; where there are too many sets, what the packets leave that are free. */
    private boolean[] stuck() {
        List<Integer> inside = new ArrayList<>();
        for (int i = 0; i < world.packets.size(); i++) {
            if (world.packets.get(i).place == 1) {
                inside.add(i);
            }
        }
        List<List<Integer>> wanted = wanted(inside);
        int n = inside.size();
        long greatest = 0;
        if (n <= 9) {
            for (long set = 0; set < 1L << n; set++) {
                boolean holds = true;
                for (int k = 0; k < n && holds; k++) {
                    holds = (set >> k & 1) == 0 || isHeld(k, set, inside, wanted);
                }
                greatest |= holds ? set : 0;
            }
        } else {
            greatest = (1L << n) - 1;
            for (int round = 0; round < n; round++) {
                long kept = 0;
                for (int k = 0; k < n; k++) {
                    kept |= (greatest >> k & 1) == 1 && isHeld(k, greatest, inside, wanted) ? 1L << k : 0;
                }
                greatest = kept;
            }
        }
        boolean[] stuck = new boolean[world.packets.size()];
        for (int k = 0; k < n; k++) {
            stuck[inside.get(k)] = (greatest >> k & 1) == 1;
        }
        return stuck;
    }

    private boolean isHeld(int k, long set, List<Integer> inside, List<List<Integer>> wanted) {
        Packet p = world.packets.get(inside.get(k));
        for (int box : wanted.get(k)) {
            if (box == p.to || hasRoom(box)) {
                return false;
            }
            for (int j = 0; j < inside.size(); j++) {
                Packet other = world.packets.get(inside.get(j));
                if (box(other.x, other.y) == box && (set >> j & 1) == 0) {
                    return false;
                }
            }
        }
        return true;
    }

    // ---- the calls

    private void record() {
        history.addLast(world.copy());
        if (history.size() > 6) {
            history.removeFirst();
        }
    }

    int set(int setting, int value) {
        int[] least = {0, 0, 1};
        int[] most = {1, 4, 4};
        if (setting < 0 || setting > 2 || value < least[setting] || value > most[setting]) {
            return BAD_VALUE;
        }
        record();
        int before = world.settings[setting];
        world.settings[setting] = value;
        return before;
    }

    int mesh(int columns, int rows) {
        if (columns < 2 || columns > 5 || rows < 2 || rows > 5) {
            return BAD_VALUE;
        }
        if (!world.packets.isEmpty()) {
            return NOT_POSSIBLE;
        }
        record();
        world.columns = columns;
        world.rows = rows;
        world.broken = new boolean[5][5][2];
        return columns * rows;
    }

    int link(int box, int side, int whole) {
        int answer = linkNow(box, side, whole, true);
        return answer;
    }

    private int linkNow(int box, int side, int whole, boolean recorded) {
        boolean isSide = side >= 0 && side <= 3;
        if (!isBox(box) || isSide && !isPlace(x(box) + STEP_X[side], y(box) + STEP_Y[side])) {
            return NO_SUCH;
        }
        if (!isSide || whole != 0 && whole != 1) {
            return BAD_VALUE;
        }
        if (recorded) {
            record();
        }
        int before = isBroken(x(box), y(box), side) ? 0 : 1;
        setBroken(x(box), y(box), side, whole == 0);
        return before;
    }

    int send(int from, int to) {
        return sendNow(from, to, true);
    }

    private int sendNow(int from, int to, boolean recorded) {
        if (!isBox(from) || !isBox(to) || from == to) {
            return NO_SUCH;
        }
        if (world.packets.size() == 40) {
            return TOO_MANY;
        }
        if (wayLength(from, to) == NONE) {
            return NOT_POSSIBLE;
        }
        if (recorded) {
            record();
        }
        Packet p = new Packet();
        p.from = from;
        p.to = to;
        p.x = x(from);
        p.y = y(from);
        p.sentIn = world.tick;
        world.packets.add(p);
        return world.packets.size() - 1;
    }

    int ticks(int ticks) {
        return ticksNow(ticks, true);
    }

    private int ticksNow(int ticks, boolean recorded) {
        if (ticks < 1 || ticks > 300) {
            return BAD_VALUE;
        }
        if (recorded) {
            record();
        }
        for (int i = 0; i < ticks; i++) {
            passTick();
        }
        return world.tick;
    }

    int ofPacket(int packet, int what) {
        if (packet < 0 || packet >= world.packets.size()) {
            return NO_SUCH;
        }
        Packet p = world.packets.get(packet);
        switch (what) {
            case 0: return p.from;
            case 1: return p.to;
            case 2: return p.place;
            case 3: return box(p.x, p.y);
            case 4: return p.moves;
            case 5: return p.detours;
            case 6: return p.waits;
            case 7: return p.sentIn;
            case 8: return p.arrivedIn;
            case 9: return p.turned ? 1 : 0;
            case 10: return wayLength(p);
            case 11:
                List<Integer> sides = directions(p);
                return sides.isEmpty() ? NONE : sides.get(0);
            case 12: return stuck()[packet] ? 1 : 0;
            default: return BAD_VALUE;
        }
    }

    int ofBox(int box, int what) {
        if (!isBox(box)) {
            return NO_SUCH;
        }
        if (what < 0 || what > 10) {
            return BAD_VALUE;
        }
        if (what < 3) {
            return countAt(new int[] {1, 0, 2}[what], box);
        }
        if (what > 6) {
            return world.moved[box][what - 7];
        }
        int side = what - 3;
        if (!isPlace(x(box) + STEP_X[side], y(box) + STEP_Y[side])) {
            return NONE;
        }
        return isBroken(x(box), y(box), side) ? 0 : 1;
    }

    int count(int what) {
        int[] places = new int[3];
        int moves = 0, detours = 0, waits = 0;
        for (Packet p : world.packets) {
            places[p.place]++;
            moves += p.moves;
            detours += p.detours;
            waits += p.waits;
        }
        switch (what) {
            case 0: return world.tick;
            case 1: return world.columns * world.rows;
            case 2: return world.columns;
            case 3: return world.packets.size();
            case 4: case 5: case 6: return places[what - 4];
            case 7: return moves;
            case 8: return detours;
            case 9: return waits;
            case 10:
                int stuck = 0;
                for (boolean one : stuck()) {
                    stuck += one ? 1 : 0;
                }
                return stuck;
            case 11:
                int broken = 0;
                for (boolean[][] column : world.broken) {
                    for (boolean[] links : column) {
                        broken += (links[0] ? 1 : 0) + (links[1] ? 1 : 0);
                    }
                }
                return broken;
            case 12: return pad.length();
            case 13: return history.size();
            case 14: case 15: case 16: return world.settings[what - 14];
            default: return BAD_VALUE;
        }
    }

    int leastWay(int from, int to) {
        return isBox(from) && isBox(to) ? wayLength(from, to) : NO_SUCH;
    }

    int ways(int from, int to) {
        return isBox(from) && isBox(to) ? (int) search(x(from), y(from), x(to), y(to), false, 0)[1] : NO_SUCH;
    }

    int pairs() {
        int found = 0;
        for (int from = 0; isBox(from); from++) {
            for (int to = 0; isBox(to); to++) {
                found += from != to && wayLength(from, to) != NONE ? 1 : 0;
            }
        }
        return found;
    }

    int worstLink(int what) {
        if (what < 0 || what > 2) {
            return BAD_VALUE;
        }
        int[] worst = null;
        for (int box = 0; isBox(box); box++) {
            for (int side = 0; side <= 2; side += 2) {
                if (isPlace(x(box) + STEP_X[side], y(box) + STEP_Y[side]) && !isBroken(x(box), y(box), side)) {
                    setBroken(x(box), y(box), side, true);
                    int left = pairs();
                    setBroken(x(box), y(box), side, false);
                    if (worst == null || left < worst[2]) {
                        worst = new int[] {box, side, left};
                    }
                }
            }
        }
        return worst == null ? NONE : worst[what];
    }

    int busiest(int what) {
        if (what < 0 || what > 2) {
            return BAD_VALUE;
        }
        int[] busiest = null;
        for (int box = 0; isBox(box); box++) {
            for (int side = 0; side < 4; side++) {
                int moves = world.moved[box][side];
                if (moves > (busiest == null ? 0 : busiest[2])) {
                    busiest = new int[] {box, side, moves};
                }
            }
        }
        return busiest == null ? NONE : busiest[what];
    }

    int arrivesIn(int packet) {
        if (packet < 0 || packet >= world.packets.size()) {
            return NO_SUCH;
        }
        World before = world.copy();
        int answer = NONE;
        for (int passed = 0; passed <= 300 && answer == NONE; passed++) {
            if (world.packets.get(packet).place == 2) {
                answer = passed;
            }
            passTick();
        }
        world = before;
        return answer;
    }

    int arrivedBy(int ticks) {
        if (ticks < 1 || ticks > 300) {
            return BAD_VALUE;
        }
        World before = world.copy();
        for (int i = 0; i < ticks; i++) {
            passTick();
        }
        int answer = count(6);
        world = before;
        return answer;
    }

    int put(long characters) {
        StringBuilder added = new StringBuilder();
        boolean ended = false;
        for (int i = 0; i < 8; i++) {
            int code = (int) (characters >> 8 * i & 255);
            if (code == 0) {
                ended = true;
            } else if (ended || code < 33 || code > 126) {
                return BAD_VALUE;
            } else {
                added.insert(0, (char) code);
            }
        }
        if (added.length() == 0) {
            return BAD_VALUE;
        }
        if (pad.length() + added.length() > 80) {
            return TOO_MANY;
        }
        pad += added;
        return pad.length();
    }

    int wipe() {
        int before = pad.length();
        pad = "";
        return before;
    }

    int fault() {
        for (int i = 0; i < pad.length(); i++) {
            Matcher matcher = TEXT.matcher(pad.substring(0, i + 1));
            // If the end was hit, something behind it could make it a text.
            if (!matcher.matches() && !matcher.hitEnd()) {
                return i;
            }
        }
        return TEXT.matcher(pad).matches() ? NONE : pad.length();
    }

    int carryOut() {
        if (fault() != NONE) {
            return BAD_TEXT;
        }
        String[] orders = pad.split(";");
        pad = "";
        record();
        int done = 0;
        for (String order : orders) {
            if (isError(obey(order))) {
                return done;
            }
            done++;
        }
        return done;
    }

    private static boolean isError(int answer) {
        return answer < 0 && answer != NONE;
    }

    private int obey(String order) {
        String rest = order.substring(1);
        switch (order.charAt(0)) {
            case 's':
                String[] boxes = rest.split(">");
                return sendNow(Integer.parseInt(boxes[0]), Integer.parseInt(boxes[1]), false);
            case 't':
                return ticksNow(Integer.parseInt(rest), false);
            default:
                int side = "ewns".indexOf(rest.charAt(rest.length() - 1));
                int box = Integer.parseInt(rest.substring(0, rest.length() - 1));
                return linkNow(box, side, order.charAt(0) == 'm' ? 1 : 0, false);
        }
    }

    int undo() {
        if (history.isEmpty()) {
            return NOT_POSSIBLE;
        }
        world = history.removeLast();
        return history.size();
    }

    int save(int slot) {
        if (slot < 0 || slot > 1) {
            return BAD_VALUE;
        }
        slots[slot] = world.copy();
        return world.tick;
    }

    int restore(int slot) {
        if (slot < 0 || slot > 1) {
            return BAD_VALUE;
        }
        if (slots[slot] == null) {
            return NOT_POSSIBLE;
        }
        record();
        world = slots[slot].copy();
        return world.tick;
    }
}
