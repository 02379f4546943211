/**
 * Packets in a mesh of boxes. What each public method promises stands in the document under the
 * method's name; the comments here say only why the code is as it is.
 */
public final class MeshTurns {
    public static final int NO_SUCH = -1, BAD_VALUE = -2, BAD_TEXT = -3, TOO_MANY = -4, NOT_POSSIBLE = -5, NONE = -6;
    public static final int RULE = 0, DETOURS = 1, ROOM = 2;
    public static final int EAST = 0, WEST = 1, NORTH = 2, SOUTH = 3;
    public static final int OUTSIDE = 0, INSIDE = 1, ARRIVED = 2;

    /** Not one of the error codes, which are all below it. */
    private static final int NO_ERROR = 0;
    private static final int NO_BOX = -1, NO_LINK = -1;
    private static final int SETTINGS = 3;
    private static final int LEAST_LINE = 2, MOST_LINE = 5;
    private static final int MOST_BOXES = MOST_LINE * MOST_LINE;
    private static final int SIDES = 4;
    private static final int MOST_PACKETS = 40;
    private static final int MOST_TICKS = 300;
    private static final int MOST_HISTORY = 6;
    private static final int SLOTS = 2;
    /** A spot is a box together with whether the packet there has turned. */
    private static final int SPOTS = 2 * MOST_BOXES;
    /** More moves than any way in any mesh has. */
    private static final int FAR = 1000;

    private final State now = new State();
    private final Routes routes = new Routes();
    /** What the forecasts try out, so that nothing of the present changes. */
    private final State trial = new State();
    private final Routes trialRoutes = new Routes();
    private final Jam jam = new Jam();
    private final Pad pad = new Pad();
    private final State[] history = new State[MOST_HISTORY];
    private int undoable = 0;
    private final State[] slots = new State[SLOTS];
    private final boolean[] slotIsUsed = new boolean[SLOTS];

    public MeshTurns() {
        for (int i = 0; i < MOST_HISTORY; i++) {
            history[i] = new State();
        }
        for (int i = 0; i < SLOTS; i++) {
            slots[i] = new State();
        }
        learnRoutes();
    }

    // ---- setting up

    public int set(int setting, int value) {
        if (setting < 0 || setting >= SETTINGS) {
            return BAD_VALUE;
        }
        if (value < leastOfSetting(setting) || value > mostOfSetting(setting)) {
            return BAD_VALUE;
        }
        recordState();
        int before = now.settings[setting];
        now.settings[setting] = value;
        learnRoutes();
        return before;
    }

    public int mesh(int columns, int rows) {
        if (!isLine(columns) || !isLine(rows)) {
            return BAD_VALUE;
        }
        if (now.packets.sent > 0) {
            return NOT_POSSIBLE;
        }
        recordState();
        now.grid.layOut(columns, rows);
        learnRoutes();
        return now.grid.boxes();
    }

    public int link(int box, int side, int whole) {
        int error = linkError(box, side, whole);
        if (error != NO_ERROR) {
            return error;
        }
        recordState();
        return changeLink(box, side, whole);
    }

    // ---- packets

    public int send(int from, int to) {
        int error = sendError(from, to);
        if (error != NO_ERROR) {
            return error;
        }
        recordState();
        return now.packets.add(from, to, now.tick);
    }

    public int ticks(int ticks) {
        if (!isTicks(ticks)) {
            return BAD_VALUE;
        }
        recordState();
        now.passTicks(routes, ticks);
        return now.tick;
    }

    // ---- what there is

    public int ofPacket(int packet, int what) {
        Packets packets = now.packets;
        if (!packets.has(packet)) {
            return NO_SUCH;
        }
        switch (what) {
            case 0: return packets.from[packet];
            case 1: return packets.to[packet];
            case 2: return packets.place[packet];
            case 3: return packets.box[packet];
            case 4: return packets.moves[packet];
            case 5: return packets.detours[packet];
            case 6: return packets.waits[packet];
            case 7: return packets.sentIn[packet];
            case 8: return packets.arrivedIn[packet];
            case 9: return packets.turned[packet];
            case 10: return now.wayLengthOf(routes, packet);
            case 11: return now.firstSide(routes, packet, false);
            case 12: return jam.holds(now, routes, packet) ? 1 : 0;
            default: return BAD_VALUE;
        }
    }

    public int ofBox(int box, int what) {
        if (!now.grid.has(box)) {
            return NO_SUCH;
        }
        if (what < 0 || what > 10) {
            return BAD_VALUE;
        }
        switch (what) {
            case 0: return now.packets.countAt(INSIDE, box);
            case 1: return now.packets.countAt(OUTSIDE, box);
            case 2: return now.packets.countAt(ARRIVED, box);
            case 3: case 4: case 5: case 6: return linkState(box, what - 3);
            default: return now.movesFrom[box * SIDES + what - 7];
        }
    }

    public int count(int what) {
        Packets packets = now.packets;
        switch (what) {
            case 0: return now.tick;
            case 1: return now.grid.boxes();
            case 2: return now.grid.columns;
            case 3: return packets.sent;
            case 4: return packets.countIn(OUTSIDE);
            case 5: return packets.countIn(INSIDE);
            case 6: return packets.countIn(ARRIVED);
            case 7: return packets.sum(packets.moves);
            case 8: return packets.sum(packets.detours);
            case 9: return packets.sum(packets.waits);
            case 10: return jam.size(now, routes);
            case 11: return now.grid.brokenLinks();
            case 12: return pad.length;
            case 13: return undoable;
            case 14: return now.settings[RULE];
            case 15: return now.settings[DETOURS];
            case 16: return now.settings[ROOM];
            default: return BAD_VALUE;
        }
    }

    // ---- what if; nothing changes

    public int leastWay(int from, int to) {
        if (!now.grid.has(from) || !now.grid.has(to)) {
            return NO_SUCH;
        }
        return now.wayLength(routes, from, to);
    }

    public int ways(int from, int to) {
        if (!now.grid.has(from) || !now.grid.has(to)) {
            return NO_SUCH;
        }
        if (now.wayLength(routes, from, to) == NONE) {
            return 0;
        }
        return routes.shortestWays(from, to);
    }

    public int pairs() {
        return now.connectedPairs(routes);
    }

    public int worstLink(int what) {
        if (what < 0 || what > 2) {
            return BAD_VALUE;
        }
        int link = findWorstLink();
        if (link == NO_LINK) {
            return NONE;
        }
        switch (what) {
            case 0: return Grid.boxOfLink(link);
            case 1: return Grid.sideOfLink(link);
            default: return pairsWithout(link);
        }
    }

    public int busiest(int what) {
        if (what < 0 || what > 2) {
            return BAD_VALUE;
        }
        int best = 0;
        for (int i = 1; i < MOST_BOXES * SIDES; i++) {
            if (now.movesFrom[i] > now.movesFrom[best]) {
                best = i;
            }
        }
        if (now.movesFrom[best] == 0) {
            return NONE;
        }
        switch (what) {
            case 0: return best / SIDES;
            case 1: return best % SIDES;
            default: return now.movesFrom[best];
        }
    }

    public int arrivesIn(int packet) {
        if (!now.packets.has(packet)) {
            return NO_SUCH;
        }
        State.copyState(now, trial);
        for (int passed = 0; passed <= MOST_TICKS; passed++) {
            if (trial.packets.place[packet] == ARRIVED) {
                return passed;
            }
            trial.passTicks(routes, 1);
        }
        return NONE;
    }

    public int arrivedBy(int ticks) {
        if (!isTicks(ticks)) {
            return BAD_VALUE;
        }
        State.copyState(now, trial);
        trial.passTicks(routes, ticks);
        return trial.packets.countIn(ARRIVED);
    }

    // ---- texts

    public int put(long characters) {
        int added = Pad.countCharacters(characters);
        if (added == 0) {
            return BAD_VALUE;
        }
        if (!pad.fits(added)) {
            return TOO_MANY;
        }
        pad.append(characters, added);
        return pad.length;
    }

    public int wipe() {
        int before = pad.length;
        pad.length = 0;
        return before;
    }

    public int fault() {
        return pad.readOrders();
    }

    public int carryOut() {
        if (pad.readOrders() != NONE) {
            return BAD_TEXT;
        }
        recordState();
        pad.length = 0;
        for (int order = 0; order < pad.orders; order++) {
            if (!obey(order)) {
                return order;
            }
        }
        return pad.orders;
    }

    // ---- undo, saving

    public int undo() {
        if (undoable < 1 || undoable > MOST_HISTORY) {
            return NOT_POSSIBLE;
        }
        undoable--;
        State.copyState(history[undoable], now);
        learnRoutes();
        return undoable;
    }

    public int save(int slot) {
        if (!isSlot(slot)) {
            return BAD_VALUE;
        }
        State.copyState(now, slots[slot]);
        slotIsUsed[slot] = true;
        return now.tick;
    }

    public int restore(int slot) {
        if (!isSlot(slot)) {
            return BAD_VALUE;
        }
        if (!slotIsUsed[slot]) {
            return NOT_POSSIBLE;
        }
        recordState();
        State.copyState(slots[slot], now);
        learnRoutes();
        return now.tick;
    }

    // ---- the checks of arguments

    private static int leastOfSetting(int setting) {
        return setting == ROOM ? 1 : 0;
    }

    private static int mostOfSetting(int setting) {
        return setting == RULE ? 1 : 4;
    }

    private static boolean isLine(int boxes) {
        return boxes >= LEAST_LINE && boxes <= MOST_LINE;
    }

    private static boolean isSide(int side) {
        return side >= 0 && side < SIDES;
    }

    private static boolean isTicks(int ticks) {
        return ticks >= 1 && ticks <= MOST_TICKS;
    }

    private static boolean isSlot(int slot) {
        return slot >= 0 && slot < SLOTS;
    }

    /** A side that is out of range is a bad value, not a side without a box: else it would never be one. */
    private int linkError(int box, int side, int whole) {
        if (!now.grid.has(box)) {
            return NO_SUCH;
        }
        if (isSide(side) && now.grid.beside(box, side) == NO_BOX) {
            return NO_SUCH;
        }
        return isSide(side) && (whole == 0 || whole == 1) ? NO_ERROR : BAD_VALUE;
    }

    private int sendError(int from, int to) {
        if (!now.grid.has(from) || !now.grid.has(to) || from == to) {
            return NO_SUCH;
        }
        if (now.packets.sent >= MOST_PACKETS) {
            return TOO_MANY;
        }
        return now.wayLength(routes, from, to) == NONE ? NOT_POSSIBLE : NO_ERROR;
    }

    // ---- changes, without their record in the history

    /** Whatever the routes depend on has changed. */
    private void learnRoutes() {
        routes.learn(now.grid, now.settings[RULE]);
    }

    private int changeLink(int box, int side, int whole) {
        int link = now.grid.linkAt(box, side);
        int before = now.grid.isWhole(link) ? 1 : 0;
        now.grid.makeWhole(link, whole == 1);
        learnRoutes();
        return before;
    }

    /** Returns whether the order could be carried out; if not, nothing has changed. */
    private boolean obey(int order) {
        if (order < 0 || order >= pad.orders) {
            return false;
        }
        int first = pad.firsts[order];
        int second = pad.seconds[order];
        switch (pad.kinds[order]) {
            case 's':
                return sendError(first, second) == NO_ERROR
                    && now.packets.add(first, second, now.tick) >= 0;
            case 'b':
                return linkError(first, second, 0) == NO_ERROR && changeLink(first, second, 0) >= 0;
            case 'm':
                return linkError(first, second, 1) == NO_ERROR && changeLink(first, second, 1) >= 0;
            default:
                if (!isTicks(first)) {
                    return false;
                }
                now.passTicks(routes, first);
                return true;
        }
    }

    private void recordState() {
        if (undoable >= MOST_HISTORY) {
            dropOldestState();
        }
        State.copyState(now, history[undoable]);
        undoable++;
    }

    /** The object of the oldest state goes to the end, to be used again. */
    private void dropOldestState() {
        State oldest = history[0];
        for (int i = 1; i < MOST_HISTORY; i++) {
            history[i - 1] = history[i];
        }
        history[MOST_HISTORY - 1] = oldest;
        undoable = MOST_HISTORY - 1;
    }

    // ---- answers that are made of parts

    private int linkState(int box, int side) {
        int link = now.grid.linkAt(box, side);
        if (link == NO_LINK) {
            return NONE;
        }
        return now.grid.isWhole(link) ? 1 : 0;
    }

    /** The links are numbered in the order in which the document prefers them. */
    private int findWorstLink() {
        int worst = NO_LINK;
        int fewest = 0;
        for (int link = 0; link < 2 * now.grid.boxes(); link++) {
            if (now.grid.isLink(link) && now.grid.isWhole(link)) {
                int left = pairsWithout(link);
                if (worst == NO_LINK || left < fewest) {
                    worst = link;
                    fewest = left;
                }
            }
        }
        return worst;
    }

    private int pairsWithout(int link) {
        State.copyState(now, trial);
        trial.grid.makeWhole(link, false);
        trialRoutes.learn(trial.grid, trial.settings[RULE]);
        return trial.connectedPairs(trialRoutes);
    }

    /** Everything that undo brings back and a slot keeps. */
    private static final class State {
        final int[] settings = {1, 0, 1};
        final Grid grid = new Grid();
        final Packets packets = new Packets();
        /** How many packets are inside of each box. */
        final int[] inside = new int[MOST_BOXES];
        /** By box, and for each box by side. */
        final int[] movesFrom = new int[MOST_BOXES * SIDES];
        int tick = 0;

        /** Static, so that a state that comes from an array can be tested whichever of the two it is. */
        static void copyState(State source, State target) {
            if (source == null || target == null) {
                return;
            }
            System.arraycopy(source.settings, 0, target.settings, 0, SETTINGS);
            target.grid.copyGrid(source.grid);
            target.packets.copyPackets(source.packets);
            System.arraycopy(source.inside, 0, target.inside, 0, MOST_BOXES);
            System.arraycopy(source.movesFrom, 0, target.movesFrom, 0, MOST_BOXES * SIDES);
            target.tick = source.tick;
        }

        boolean hasRoom(int box) {
            return box >= 0 && box < inside.length && inside[box] < settings[ROOM];
        }

        /** The way length of a packet that would be sent now. */
        int wayLength(Routes routes, int from, int to) {
            int length = routes.length(from, 0, to);
            return length <= grid.distance(from, to) + 2 * settings[DETOURS] ? length : NONE;
        }

        int wayLengthOf(Routes routes, int p) {
            int length = routes.length(packets.box[p], packets.turned[p], packets.to[p]);
            return length <= mostMoves(p) ? length : NONE;
        }

        /**
         * Each move changes the distance by one, so a way has as many moves as the distance, and two
         * more for each detour: the bound of the detours is a bound of the moves.
         */
        int mostMoves(int p) {
            int spare = Math.max(0, settings[DETOURS] - packets.detours[p]);
            return grid.distance(packets.box[p], packets.to[p]) + 2 * spare;
        }

        boolean isPossible(Routes routes, int p, int side) {
            return routes.lengthAfter(packets.box[p], packets.turned[p], side, packets.to[p]) < mostMoves(p);
        }

        /** The first of the possible directions, or the first one of them with room. */
        int firstSide(Routes routes, int p, boolean withRoom) {
            int first = NONE;
            if (packets.place[p] == ARRIVED) {
                return first;
            }
            int box = packets.box[p];
            int bound = mostMoves(p);
            for (int side = 0; side < SIDES; side++) {
                int length = routes.lengthAfter(box, packets.turned[p], side, packets.to[p]);
                if (length < bound && (!withRoom || letsIn(p, routes.boxBehind(box, side)))) {
                    first = side;
                    bound = length;
                }
            }
            return first;
        }

        /** The box to which a packet goes takes it at any time. */
        boolean letsIn(int p, int box) {
            return box == packets.to[p] || hasRoom(box);
        }

        int connectedPairs(Routes routes) {
            int found = 0;
            int boxes = grid.boxes();
            for (int from = 0; from < boxes; from++) {
                for (int to = 0; to < boxes; to++) {
                    if (from != to && wayLength(routes, from, to) != NONE) {
                        found++;
                    }
                }
            }
            return found;
        }

        void passTicks(Routes routes, int ticks) {
            for (int i = 0; i < ticks; i++) {
                for (int p = 0; p < packets.sent; p++) {
                    int place = packets.place[p];
                    boolean waits = place == OUTSIDE && !comesInside(p) || place == INSIDE && !movesOn(routes, p);
                    if (waits) {
                        packets.waits[p]++;
                    }
                }
                tick++;
            }
        }

        private boolean comesInside(int p) {
            int box = packets.box[p];
            if (!hasRoom(box)) {
                return false;
            }
            packets.place[p] = INSIDE;
            inside[box]++;
            return true;
        }

        private boolean movesOn(Routes routes, int p) {
            int side = firstSide(routes, p, true);
            if (side == NONE) {
                return false;
            }
            int box = packets.box[p];
            int to = packets.to[p];
            int next = routes.boxBehind(box, side);
            inside[box]--;
            movesFrom[box * SIDES + side]++;
            packets.noteMove(p, next, side, grid.distance(next, to) > grid.distance(box, to));
            if (next == to) {
                packets.place[p] = ARRIVED;
                packets.arrivedIn[p] = tick;
            } else {
                inside[next]++;
            }
            return true;
        }
    }

    /** The form of the mesh, and its broken links. */
    private static final class Grid {
        int columns = 4;
        int rows = 4;
        /** A bit for each link, at its number: twice its western or southern box, and 1 more to the north. */
        private long broken = 0;

        void layOut(int newColumns, int newRows) {
            columns = newColumns;
            rows = newRows;
            broken = 0;
        }

        void copyGrid(Grid other) {
            columns = other.columns;
            rows = other.rows;
            broken = other.broken;
        }

        int boxes() {
            return columns * rows;
        }

        boolean has(int box) {
            return box >= 0 && box < columns * rows;
        }

        /** The box on a side, whether the link to it is whole or not. */
        int beside(int box, int side) {
            if (columns < 1) {
                return NO_BOX;
            }
            int x = box % columns;
            int y = box / columns;
            switch (side) {
                case EAST: return x < columns - 1 ? box + 1 : NO_BOX;
                case WEST: return x > 0 ? box - 1 : NO_BOX;
                case NORTH: return y < rows - 1 ? box + columns : NO_BOX;
                case SOUTH: return y > 0 ? box - columns : NO_BOX;
                default: return NO_BOX;
            }
        }

        int distance(int box, int other) {
            if (columns < 1) {
                return 0;
            }
            return Math.abs(box % columns - other % columns) + Math.abs(box / columns - other / columns);
        }

        int linkAt(int box, int side) {
            int other = beside(box, side);
            if (other == NO_BOX) {
                return NO_LINK;
            }
            // The western or southern one of two boxes has the lower number.
            return 2 * Math.min(box, other) + (side == EAST || side == WEST ? 0 : 1);
        }

        static int boxOfLink(int link) {
            return link / 2;
        }

        static int sideOfLink(int link) {
            return link % 2 == 0 ? EAST : NORTH;
        }

        boolean isLink(int link) {
            return beside(boxOfLink(link), sideOfLink(link)) != NO_BOX;
        }

        boolean isWhole(int link) {
            return (broken >>> link & 1) == 0;
        }

        void makeWhole(int link, boolean whole) {
            long bit = 1L << link;
            broken = whole ? broken & ~bit : broken | bit;
        }

        int brokenLinks() {
            return Long.bitCount(broken);
        }
    }

    /**
     * All packets that were ever sent, a row for each number about them. A packet below "sent" is an
     * index of each row, because add() refuses more than the rows hold.
     */
    private static final class Packets {
        int sent = 0;
        final int[] from = new int[MOST_PACKETS];
        final int[] to = new int[MOST_PACKETS];
        final int[] place = new int[MOST_PACKETS];
        final int[] box = new int[MOST_PACKETS];
        final int[] moves = new int[MOST_PACKETS];
        final int[] detours = new int[MOST_PACKETS];
        final int[] waits = new int[MOST_PACKETS];
        final int[] sentIn = new int[MOST_PACKETS];
        final int[] arrivedIn = new int[MOST_PACKETS];
        /** 1 if the packet has moved in another direction than east. */
        final int[] turned = new int[MOST_PACKETS];

        void copyPackets(Packets other) {
            sent = other.sent;
            System.arraycopy(other.from, 0, from, 0, MOST_PACKETS);
            System.arraycopy(other.to, 0, to, 0, MOST_PACKETS);
            System.arraycopy(other.place, 0, place, 0, MOST_PACKETS);
            System.arraycopy(other.box, 0, box, 0, MOST_PACKETS);
            System.arraycopy(other.moves, 0, moves, 0, MOST_PACKETS);
            System.arraycopy(other.detours, 0, detours, 0, MOST_PACKETS);
            System.arraycopy(other.waits, 0, waits, 0, MOST_PACKETS);
            System.arraycopy(other.sentIn, 0, sentIn, 0, MOST_PACKETS);
            System.arraycopy(other.arrivedIn, 0, arrivedIn, 0, MOST_PACKETS);
            System.arraycopy(other.turned, 0, turned, 0, MOST_PACKETS);
        }

        boolean has(int p) {
            return p >= 0 && p < sent;
        }

        /** Writes every row, so that nothing depends on what was there. */
        int add(int start, int goal, int tick) {
            int p = sent;
            if (p >= MOST_PACKETS) {
                return TOO_MANY;
            }
            from[p] = start;
            to[p] = goal;
            place[p] = OUTSIDE;
            box[p] = start;
            moves[p] = 0;
            detours[p] = 0;
            waits[p] = 0;
            sentIn[p] = tick;
            arrivedIn[p] = NONE;
            turned[p] = 0;
            sent++;
            return p;
        }

        void noteMove(int p, int next, int side, boolean isDetour) {
            box[p] = next;
            moves[p]++;
            if (isDetour) {
                detours[p]++;
            }
            if (side != EAST) {
                turned[p] = 1;
            }
        }

        int countIn(int wanted) {
            int found = 0;
            for (int p = 0; p < sent; p++) {
                if (place[p] == wanted) {
                    found++;
                }
            }
            return found;
        }

        int countAt(int wanted, int where) {
            int found = 0;
            for (int p = 0; p < sent; p++) {
                if (place[p] == wanted && box[p] == where) {
                    found++;
                }
            }
            return found;
        }

        int sum(int[] row) {
            int all = 0;
            for (int p = 0; p < sent; p++) {
                all += row[p];
            }
            return all;
        }
    }

    /** The least moves from each spot to each box under the rule, however many detours they take. */
    private static final class Routes {
        private boolean eastIsFirst = false;
        /** By box and side: the box to which a packet can move, or NO_BOX. */
        private final int[] open = new int[MOST_BOXES * SIDES];
        /** By box to which it goes, and for each by spot. */
        private final int[] lengths = new int[MOST_BOXES * SPOTS];
        /** How many shortest ways there are from each spot to the box that was looked at last. */
        private final int[] numbers = new int[SPOTS];
        private final int[] queue = new int[SPOTS];
        private int queued = 0;

        void learn(Grid grid, int rule) {
            int boxes = grid.boxes();
            eastIsFirst = rule == 1;
            for (int box = 0; box < boxes; box++) {
                for (int side = 0; side < SIDES; side++) {
                    int link = grid.linkAt(box, side);
                    boolean isOpen = link != NO_LINK && grid.isWhole(link);
                    open[box * SIDES + side] = isOpen ? grid.beside(box, side) : NO_BOX;
                }
            }
            for (int to = 0; to < boxes; to++) {
                search(to);
            }
        }

        int boxBehind(int box, int side) {
            int index = box * SIDES + side;
            return index >= 0 && index < open.length ? open[index] : NO_BOX;
        }

        /** The least moves to a box, FAR if there is no way. */
        int length(int box, int turned, int to) {
            int index = to * SPOTS + spot(box, turned);
            return index >= 0 && index < lengths.length ? lengths[index] : FAR;
        }

        /** The least moves after a move to a side, FAR if the packet may not make it. */
        int lengthAfter(int box, int turned, int side, int to) {
            int next = boxBehind(box, side);
            if (next == NO_BOX || !mayMove(turned, side)) {
                return FAR;
            }
            return length(next, side == EAST ? turned : 1, to);
        }

        int shortestWays(int from, int to) {
            search(to);
            return numbers[spot(from, 0)];
        }

        private static int spot(int box, int turned) {
            return turned * MOST_BOXES + box;
        }

        private boolean mayMove(int turned, int side) {
            return !eastIsFirst || turned == 0 || side != EAST;
        }

        /** Goes backwards from a box, so that the spots come in the order of their moves to it. */
        private void search(int to) {
            for (int spot = 0; spot < SPOTS; spot++) {
                lengths[to * SPOTS + spot] = FAR;
                numbers[spot] = 0;
            }
            queued = 0;
            reach(to, spot(to, 0), 0, 1);
            reach(to, spot(to, 1), 0, 1);
            for (int i = 0; i < queued && i < SPOTS; i++) {
                stepBack(to, queue[i] % MOST_BOXES, queue[i] / MOST_BOXES);
            }
        }

        /**
         * Reaches every spot from which one move comes to this one. A move to the east leaves it as it
         * was whether the packet has turned, and any other one makes it so.
         */
        private void stepBack(int to, int box, int turned) {
            int here = spot(box, turned);
            int length = lengths[to * SPOTS + here] + 1;
            int western = boxBehind(box, WEST);
            if (western != NO_BOX && mayMove(turned, EAST)) {
                reach(to, spot(western, turned), length, numbers[here]);
            }
            for (int side = WEST; side < SIDES && turned == 1; side++) {
                int before = boxBehind(box, opposite(side));
                if (before != NO_BOX) {
                    reach(to, spot(before, 0), length, numbers[here]);
                    reach(to, spot(before, 1), length, numbers[here]);
                }
            }
        }

        private static int opposite(int side) {
            switch (side) {
                case EAST: return WEST;
                case WEST: return EAST;
                case NORTH: return SOUTH;
                default: return NORTH;
            }
        }

        /** Notes ways from a spot; those that are longer than the known ones do not count. */
        private void reach(int to, int spot, int length, int ways) {
            int known = lengths[to * SPOTS + spot];
            if (known == FAR && queued < SPOTS) {
                lengths[to * SPOTS + spot] = length;
                queue[queued] = spot;
                queued++;
            }
            if (known >= length) {
                numbers[spot] += ways;
            }
        }
    }

    /** Finds the packets that are stuck. */
    private static final class Jam {
        /** By packet, as the last search left it. */
        private final boolean[] stuck = new boolean[MOST_PACKETS];

        boolean holds(State state, Routes routes, int p) {
            find(state, routes);
            return state.packets.has(p) && stuck[p];
        }

        int size(State state, Routes routes) {
            find(state, routes);
            int found = 0;
            for (int p = 0; p < state.packets.sent; p++) {
                if (stuck[p]) {
                    found++;
                }
            }
            return found;
        }

        /** The greatest set is what is left when those are taken out that can't be in it. */
        private void find(State state, Routes routes) {
            int sent = state.packets.sent;
            for (int p = 0; p < sent; p++) {
                stuck[p] = state.packets.place[p] == INSIDE;
            }
            boolean changed = true;
            // Each round but the last one takes at least one packet out.
            for (int round = 0; round <= MOST_PACKETS && changed; round++) {
                changed = false;
                for (int p = 0; p < sent; p++) {
                    if (stuck[p] && canGoOn(state, routes, p)) {
                        stuck[p] = false;
                        changed = true;
                    }
                }
            }
        }

        private boolean canGoOn(State state, Routes routes, int p) {
            for (int side = 0; side < SIDES; side++) {
                if (state.isPossible(routes, p, side)) {
                    int next = routes.boxBehind(state.packets.box[p], side);
                    if (state.letsIn(p, next) || hasFreePacket(state.packets, next)) {
                        return true;
                    }
                }
            }
            return false;
        }

        private boolean hasFreePacket(Packets packets, int box) {
            for (int p = 0; p < packets.sent; p++) {
                if (packets.place[p] == INSIDE && packets.box[p] == box && !stuck[p]) {
                    return true;
                }
            }
            return false;
        }
    }

    /** The text, and the orders in it as they were read last. */
    private static final class Pad {
        private static final int MOST_SIGNS = 80;
        /** The shortest order has two characters, and one parts it from the next. */
        private static final int MOST_ORDERS = (MOST_SIGNS + 1) / 3;
        private static final int SIGNS_AT_ONCE = 8, BITS_OF_SIGN = 8;
        private static final int LOWEST_SIGN = 33, HIGHEST_SIGN = 126;
        private static final int NO_NUMBER = -1, NO_SIDE = -1;

        private final char[] signs = new char[MOST_SIGNS];
        int length = 0;
        int orders = 0;
        final int[] kinds = new int[MOST_ORDERS];
        final int[] firsts = new int[MOST_ORDERS];
        final int[] seconds = new int[MOST_ORDERS];
        /** How far the reading has come: all ahead of it can stand where it stands. */
        private int place = 0;

        /** Returns 0 if the number is not one that put() takes. */
        static int countCharacters(long characters) {
            int found = 0;
            long rest = characters;
            for (int i = 0; i < SIGNS_AT_ONCE && rest != 0; i++) {
                int code = (int) (rest & 255);
                if (code < LOWEST_SIGN || code > HIGHEST_SIGN) {
                    return 0;
                }
                found++;
                rest = rest >>> BITS_OF_SIGN;
            }
            return found;
        }

        boolean fits(int added) {
            return length + added <= MOST_SIGNS;
        }

        void append(long characters, int added) {
            for (int i = 0; i < added && fits(added); i++) {
                int shift = BITS_OF_SIGN * (added - 1 - i);
                signs[length + i] = (char) (characters >>> shift & 255);
            }
            length += added;
        }

        /** Returns the fault, or NONE. */
        int readOrders() {
            place = 0;
            orders = 0;
            for (int i = 0; i < MOST_ORDERS; i++) {
                if (!readOrder()) {
                    return place;
                }
                if (place >= length) {
                    return NONE;
                }
                if (!readSign(';')) {
                    return place;
                }
            }
            return place;
        }

        private boolean readOrder() {
            char kind = signHere();
            if (kind != 's' && kind != 'b' && kind != 'm' && kind != 't') {
                return false;
            }
            place++;
            int first = readNumber();
            if (first == NO_NUMBER) {
                return false;
            }
            int second = 0;
            if (kind == 's') {
                second = readSign('>') ? readNumber() : NO_NUMBER;
            } else if (kind != 't') {
                second = readSide();
            }
            if (second < 0 || orders >= MOST_ORDERS) {
                return false;
            }
            kinds[orders] = kind;
            firsts[orders] = first;
            seconds[orders] = second;
            orders++;
            return true;
        }

        /** The sign 0 stands for the end of the text; it is never in it. */
        private char signHere() {
            return place >= 0 && place < length && place < MOST_SIGNS ? signs[place] : (char) 0;
        }

        private boolean readSign(char wanted) {
            if (signHere() != wanted) {
                return false;
            }
            place++;
            return true;
        }

        /** A third digit, or one behind a leading 0, is left to be the fault of what comes next. */
        private int readNumber() {
            int first = readDigit();
            if (first <= 0) {
                return first;
            }
            int second = readDigit();
            return second == NO_NUMBER ? first : 10 * first + second;
        }

        private int readDigit() {
            char sign = signHere();
            if (sign < '0' || sign > '9') {
                return NO_NUMBER;
            }
            place++;
            return sign - '0';
        }

        private int readSide() {
            char sign = signHere();
            int side = sideOfSign(sign);
            if (side != NO_SIDE) {
                place++;
            }
            return side;
        }

        private static int sideOfSign(char sign) {
            switch (sign) {
                case 'e': return EAST;
                case 'w': return WEST;
                case 'n': return NORTH;
                case 's': return SOUTH;
                default: return NO_SIDE;
            }
        }
    }
}
