import java.util.Arrays;

/** A house of six-sided rooms in rings, with lamps. */
public final class HexRooms {
    private static final int NONE = -1;
    private static final int SIDES = 6;
    private static final int FIRST_RINGS = 2;
    private static final int MOST_RINGS = 5;
    private static final int MOST_ROOMS = 1 + 3 * MOST_RINGS * (MOST_RINGS + 1);
    private static final int MOST_PLACES = SIDES * MOST_RINGS;
    private static final int MOST_STEPS = 99;

    private static final int NOTHING = 0;
    private static final int WALL = 1;
    private static final int LAMP = 2;
    private static final int FLOORS = 3;

    private static final int ROOM_FACTS = 6;
    private static final int RING_FACTS = 4;
    private static final int HOUSE_FACTS = 7;

    private static final long DIGEST_START = 1733;
    private static final long DIGEST_FACTOR = 31;

    // All rows are made once, for the largest house: a run counts every object that is ever made.
    private final Plan plan = new Plan();
    private final int[] floors = new int[MOST_ROOMS];
    private final boolean[] shutDoors = new boolean[MOST_ROOMS * SIDES];
    /** How many lamps shine into each room: kept true by relight() after each change. */
    private final int[] light = new int[MOST_ROOMS];
    private final int[] trialFloors = new int[MOST_ROOMS];
    private final int[] trialLight = new int[MOST_ROOMS];
    private final int[] beam = new int[MOST_ROOMS];
    private final int[] stepsTo = new int[MOST_ROOMS];
    private final int[] queue = new int[MOST_ROOMS];
    private int rings;
    private int rooms;

    /** Creates a house of 2 rings, with nothing in its rooms. */
    public HexRooms() {
        build(FIRST_RINGS);
    }

    // ---- the house

    /** Builds another house of so many rings; returns how many rooms it has. */
    public int setRings(int rings) throws IllegalArgumentException {
        needNumber(rings, 1, MOST_RINGS);
        build(rings);
        return rooms;
    }

    /** Puts nothing (0), a wall (1) or a lamp (2) into a room; returns what stood in it before. */
    public int put(int room, int floor) throws IndexOutOfBoundsException {
        needRoom(room);
        needIndex(floor, FLOORS);
        int before = floors[room];
        floors[room] = floor;
        relight();
        return before;
    }

    /** Shuts or opens a door, from both of its rooms; returns whether it was shut. */
    public boolean shut(int room, int side, boolean is)
            throws IndexOutOfBoundsException, IllegalStateException {
        int other = needDoor(room, side);
        boolean before = shutDoors[doorOf(room, side)];
        shutDoors[doorOf(room, side)] = is;
        shutDoors[doorOf(other, opposite(side))] = is;
        relight();
        return before;
    }

    /** Turns a ring by some places; returns how many rooms are lit then. */
    public int turn(int ring, int by) throws IndexOutOfBoundsException, IllegalArgumentException {
        needRing(ring);
        needNumber(by, 0, MOST_PLACES - 1);
        turnRingInto(ring, by, trialFloors);
        int first = Plan.firstRoomOf(ring);
        System.arraycopy(trialFloors, first, floors, first, Plan.sizeOf(ring));
        return relight();
    }

    /** Turns all rings by some sixths; returns how many rooms are lit then. */
    public int turnAll(int by) throws IllegalArgumentException {
        needNumber(by, 0, SIDES - 1);
        turnAllInto(by, trialFloors);
        System.arraycopy(trialFloors, 0, floors, 0, rooms);
        return relight();
    }

    // ---- rooms

    /** Returns the room at a place, -1 for none. */
    public int at(int across, int down) {
        return orNone(plan.roomAt(across, down));
    }

    /**
     * Returns what is asked of a room: 0 where it is across, 1 where down, 2 its ring, 3 what
     * stands in it, 4 how many lamps shine into it, 5 by how many sides one can go on from it.
     */
    public int about(int room, int what) throws IndexOutOfBoundsException {
        needRoom(room);
        needIndex(what, ROOM_FACTS);
        switch (what) {
            case 0:
                return plan.acrossOf(room);
            case 1:
                return plan.downOf(room);
            case 2:
                return plan.ringOf(room);
            case 3:
                return floors[room];
            case 4:
                return light[room];
            default:
                return sidesOnward(room);
        }
    }

    /** Returns the room beside another one by a side, -1 for none. */
    public int beside(int room, int side) throws IndexOutOfBoundsException {
        needRoom(room);
        needIndex(side, SIDES);
        return neighbour(room, side);
    }

    /** Returns whether a door is shut. */
    public boolean isShut(int room, int side)
            throws IndexOutOfBoundsException, IllegalStateException {
        needDoor(room, side);
        return shutDoors[doorOf(room, side)];
    }

    /** Returns how far two rooms are apart. */
    public int far(int a, int b) throws IndexOutOfBoundsException {
        needRoom(a);
        needRoom(b);
        int across = plan.acrossOf(a) - plan.acrossOf(b);
        int down = plan.downOf(a) - plan.downOf(b);
        return (Math.abs(across) + Math.abs(down) + Math.abs(across + down)) / 2;
    }

    /** Returns whether a lamp in the first room would shine into the second one. */
    public boolean sees(int a, int b) throws IndexOutOfBoundsException {
        needRoom(a);
        needRoom(b);
        int seen = beamFrom(floors, a);
        for (int i = 0; i < seen; i++) {
            if (beam[i] == b) {
                return true;
            }
        }
        return false;
    }

    // ---- ways

    /** Returns the steps of the shortest way between two rooms, -1 without one. */
    public int way(int a, int b) throws IndexOutOfBoundsException {
        needRoom(a);
        needRoom(b);
        return stepsBetween(a, b);
    }

    /** Returns the smallest side by which a shortest way goes on, -1 for no step or no way. */
    public int side(int a, int b) throws IndexOutOfBoundsException {
        needRoom(a);
        needRoom(b);
        if (a == b) {
            return NONE;
        }
        int chosen = NONE;
        int fewest = MOST_ROOMS;
        for (int side = 0; side < SIDES; side++) {
            int next = onward(floors, a, side);
            int more = next == NONE ? NONE : stepsBetween(next, b);
            if (more != NONE && more < fewest) {
                fewest = more;
                chosen = side;
            }
        }
        return chosen;
    }

    /** Returns to how many rooms there are ways of at most so many steps, itself counted. */
    public int reach(int room, int steps)
            throws IndexOutOfBoundsException, IllegalArgumentException {
        needRoom(room);
        needNumber(steps, 0, MOST_STEPS);
        forgetSteps();
        spreadFrom(room);
        int reached = 0;
        for (int other = 0; other < rooms; other++) {
            if (stepsTo[other] != NONE && stepsTo[other] <= steps) {
                reached++;
            }
        }
        return reached;
    }

    // ---- rings

    /** Returns what is asked of a ring: 0 its rooms, 1 walls, 2 lamps, 3 rooms that are lit. */
    public int ring(int ring, int what) throws IndexOutOfBoundsException {
        needRing(ring);
        needIndex(what, RING_FACTS);
        int first = Plan.firstRoomOf(ring);
        int end = first + Plan.sizeOf(ring);
        switch (what) {
            case 0:
                return end - first;
            case 1:
                return standing(WALL, first, end);
            case 2:
                return standing(LAMP, first, end);
            default:
                return litAmong(light, first, end);
        }
    }

    /**
     * Returns what is asked of the house: 0 rooms, 1 rings but the ring 0, 2 walls, 3 lamps,
     * 4 doors that are shut, 5 rooms that are lit, 6 parts.
     */
    public int count(int what) throws IndexOutOfBoundsException {
        needIndex(what, HOUSE_FACTS);
        switch (what) {
            case 0:
                return rooms;
            case 1:
                return rings;
            case 2:
                return standing(WALL, 0, rooms);
            case 3:
                return standing(LAMP, 0, rooms);
            case 4:
                return doorsShut();
            case 5:
                return litAmong(light, 0, rooms);
            default:
                return parts();
        }
    }

    /** Returns by how few sixths, 1 to 6, all rings could be turned to stand as they do now. */
    public int sixthsToSame() {
        for (int sixths = 1; sixths < SIDES; sixths++) {
            turnAllInto(sixths, trialFloors);
            if (isTrialAsNow()) {
                return sixths;
            }
        }
        return SIDES;
    }

    // ---- what would be

    /** Returns how many rooms would be lit, were a ring turned by some places. */
    public int would(int ring, int by) throws IndexOutOfBoundsException, IllegalArgumentException {
        needRing(ring);
        needNumber(by, 0, Plan.sizeOf(ring) - 1);
        return litAfterTurn(ring, by);
    }

    /** Returns by how few places a ring had best be turned, so that the most rooms are lit. */
    public int advise(int ring) throws IndexOutOfBoundsException {
        needRing(ring);
        int chosen = 0;
        int most = NONE;
        for (int by = 0; by < Plan.sizeOf(ring); by++) {
            int lit = litAfterTurn(ring, by);
            if (lit > most) {
                most = lit;
                chosen = by;
            }
        }
        return chosen;
    }

    /** Returns the empty room in which one more lamp would make the most rooms lit, -1 for none. */
    public int best() {
        int chosen = NONE;
        int most = NONE;
        for (int room = 0; room < rooms; room++) {
            int more = floors[room] == NOTHING ? newlyLitFrom(room) : NONE;
            if (more > most) {
                most = more;
                chosen = room;
            }
        }
        return chosen;
    }

    /** Returns the mean of how many lamps shine into a lit room, 0 without any. */
    public double mean() {
        int lit = litAmong(light, 0, rooms);
        int sum = 0;
        for (int room = 0; room < rooms; room++) {
            sum += light[room];
        }
        return lit == 0 ? 0.0 : (double) sum / lit;
    }

    /** Returns a checksum of all that is told of the house, its rooms, doors and rings. */
    public long digest() {
        long d = DIGEST_START;
        for (int what = 0; what < HOUSE_FACTS; what++) {
            d = d * DIGEST_FACTOR + count(what);
        }
        for (int room = 0; room < rooms; room++) {
            for (int what = 0; what < ROOM_FACTS; what++) {
                d = d * DIGEST_FACTOR + about(room, what);
            }
            for (int side = 0; side < SIDES; side++) {
                d = d * DIGEST_FACTOR + (shutDoors[doorOf(room, side)] ? 1 : 0);
            }
        }
        for (int ring = 0; ring <= rings; ring++) {
            for (int what = 0; what < RING_FACTS; what++) {
                d = d * DIGEST_FACTOR + ring(ring, what);
            }
        }
        return d;
    }

    // ---- what a call needs

    private void needRoom(int room) {
        needIndex(room, rooms);
    }

    private void needRing(int ring) {
        needIndex(ring, rings + 1);
    }

    private static void needIndex(int index, int end) {
        if (index < 0 || index >= end) {
            throw new IndexOutOfBoundsException();
        }
    }

    private static void needNumber(int number, int least, int most) {
        if (number < least || number > most) {
            throw new IllegalArgumentException();
        }
    }

    /** Returns the room behind the door, which there must be. */
    private int needDoor(int room, int side) {
        needRoom(room);
        needIndex(side, SIDES);
        int other = neighbour(room, side);
        if (other == NONE) {
            throw new IllegalStateException();
        }
        return other;
    }

    // ---- rooms and doors

    private void build(int newRings) {
        rings = newRings;
        rooms = Plan.firstRoomOf(newRings + 1);
        Arrays.fill(floors, NOTHING);
        for (int door = 0; door < shutDoors.length; door++) {
            shutDoors[door] = false;
        }
        Arrays.fill(light, 0);
    }

    /** The plan is of the largest house: a room of it that this house does not have is none. */
    private int orNone(int plannedRoom) {
        return plannedRoom < rooms ? plannedRoom : NONE;
    }

    private int neighbour(int room, int side) {
        return orNone(plan.nextTo(room, side));
    }

    private static int opposite(int side) {
        return (side + SIDES / 2) % SIDES;
    }

    private static int doorOf(int room, int side) {
        return room * SIDES + side;
    }

    /** Returns the room to which one can go on by a side, -1 for none. */
    private int onward(int[] stands, int room, int side) {
        int next = neighbour(room, side);
        if (next == NONE || shutDoors[doorOf(room, side)] || stands[next] == WALL) {
            return NONE;
        }
        return next;
    }

    private int sidesOnward(int room) {
        int sides = 0;
        for (int side = 0; side < SIDES; side++) {
            if (onward(floors, room, side) != NONE) {
                sides++;
            }
        }
        return sides;
    }

    // ---- counts

    private int standing(int floor, int first, int end) {
        int found = 0;
        for (int room = first; room < end; room++) {
            if (floors[room] == floor) {
                found++;
            }
        }
        return found;
    }

    private static int litAmong(int[] shining, int first, int end) {
        int lit = 0;
        for (int room = first; room < end; room++) {
            if (shining[room] > 0) {
                lit++;
            }
        }
        return lit;
    }

    private int doorsShut() {
        int found = 0;
        for (int room = 0; room < rooms; room++) {
            // Each door has one room that it leaves by a side below 3: so it is counted once.
            for (int side = 0; side < SIDES / 2; side++) {
                if (shutDoors[doorOf(room, side)]) {
                    found++;
                }
            }
        }
        return found;
    }

    private int parts() {
        forgetSteps();
        int found = 0;
        for (int room = 0; room < rooms; room++) {
            if (floors[room] != WALL && stepsTo[room] == NONE) {
                found++;
                spreadFrom(room);
            }
        }
        return found;
    }

    // ---- light

    private int relight() {
        return shine(floors, light);
    }

    /** Counts the lamps that shine into each room; returns how many rooms are lit. */
    private int shine(int[] stands, int[] shining) {
        Arrays.fill(shining, 0);
        for (int room = 0; room < rooms; room++) {
            int seen = stands[room] == LAMP ? beamFrom(stands, room) : 0;
            for (int i = 0; i < seen; i++) {
                shining[beam[i]]++;
            }
        }
        return litAmong(shining, 0, rooms);
    }

    /** Writes into the beam the rooms into which a lamp would shine; returns how many they are. */
    private int beamFrom(int[] stands, int lamp) {
        beam[0] = lamp;
        int seen = 1;
        for (int side = 0; side < SIDES; side++) {
            int room = onward(stands, lamp, side);
            while (room != NONE && seen < MOST_ROOMS) {
                beam[seen] = room;
                seen++;
                room = onward(stands, room, side);
            }
        }
        return seen;
    }

    private int newlyLitFrom(int lamp) {
        int seen = beamFrom(floors, lamp);
        int dark = 0;
        for (int i = 0; i < seen; i++) {
            if (light[beam[i]] == 0) {
                dark++;
            }
        }
        return dark;
    }

    // ---- ways from room to room

    private int stepsBetween(int a, int b) {
        forgetSteps();
        spreadFrom(a);
        return stepsTo[b];
    }

    private void forgetSteps() {
        Arrays.fill(stepsTo, NONE);
    }

    /** Notes the steps to each room to which there is a way, leaving out those noted already. */
    private void spreadFrom(int start) {
        stepsTo[start] = 0;
        queue[0] = start;
        int end = 1;
        for (int i = 0; i < end && i < MOST_ROOMS; i++) {
            int room = queue[i];
            for (int side = 0; side < SIDES; side++) {
                int next = onward(floors, room, side);
                if (next != NONE && stepsTo[next] == NONE && end < MOST_ROOMS) {
                    stepsTo[next] = stepsTo[room] + 1;
                    queue[end] = next;
                    end++;
                }
            }
        }
    }

    // ---- turning

    /** Writes what stands in the rooms of a ring to where it comes by the turn. */
    private void turnRingInto(int ring, int by, int[] turned) {
        int first = Plan.firstRoomOf(ring);
        int size = Plan.sizeOf(ring);
        for (int place = 0; place < size; place++) {
            turned[first + (place + by) % size] = floors[first + place];
        }
    }

    private void turnAllInto(int sixths, int[] turned) {
        for (int ring = 0; ring <= rings; ring++) {
            turnRingInto(ring, ring * sixths, turned);
        }
    }

    private boolean isTrialAsNow() {
        for (int room = 0; room < rooms; room++) {
            if (trialFloors[room] != floors[room]) {
                return false;
            }
        }
        return true;
    }

    private int litAfterTurn(int ring, int by) {
        System.arraycopy(floors, 0, trialFloors, 0, rooms);
        turnRingInto(ring, by, trialFloors);
        return shine(trialFloors, trialLight);
    }

    /** Where the rooms of the largest house are; a smaller house has the first of them. */
    private static final class Plan {
        private static final int WIDTH = 2 * MOST_RINGS + 1;
        private static final int[] STEP_ACROSS = {1, 0, -1, -1, 0, 1};
        private static final int[] STEP_DOWN = {0, 1, 1, 0, -1, -1};
        private static final int FIRST_SIDE_ALONG = 2;

        private final int[] acrosses = new int[MOST_ROOMS];
        private final int[] downs = new int[MOST_ROOMS];
        private final int[] rings = new int[MOST_ROOMS];
        private final int[] cells = new int[WIDTH * WIDTH];
        private final int[] neighbours = new int[MOST_ROOMS * SIDES];

        Plan() {
            Arrays.fill(cells, NONE);
            placeRoom(0, 0, 0, 0);
            for (int ring = 1; ring <= MOST_RINGS; ring++) {
                placeRing(ring);
            }
            joinRooms();
        }

        static int firstRoomOf(int ring) {
            return ring < 1 ? 0 : 1 + 3 * ring * (ring - 1);
        }

        static int sizeOf(int ring) {
            return ring < 1 ? 1 : SIDES * ring;
        }

        int acrossOf(int room) {
            return acrosses[room];
        }

        int downOf(int room) {
            return downs[room];
        }

        int ringOf(int room) {
            return rings[room];
        }

        int nextTo(int room, int side) {
            return neighbours[doorOf(room, side)];
        }

        int roomAt(int across, int down) {
            return isOnPlan(across) && isOnPlan(down) ? cells[cellOf(across, down)] : NONE;
        }

        private static boolean isOnPlan(int number) {
            return number >= -MOST_RINGS && number <= MOST_RINGS;
        }

        private static int cellOf(int across, int down) {
            return (down + MOST_RINGS) * WIDTH + across + MOST_RINGS;
        }

        private void placeRing(int ring) {
            int room = firstRoomOf(ring);
            int across = ring;
            int down = 0;
            for (int leg = 0; leg < SIDES; leg++) {
                int side = (leg + FIRST_SIDE_ALONG) % SIDES;
                for (int step = 0; step < ring; step++) {
                    placeRoom(room, across, down, ring);
                    room++;
                    across += STEP_ACROSS[side];
                    down += STEP_DOWN[side];
                }
            }
        }

        private void placeRoom(int room, int across, int down, int ring) {
            acrosses[room] = across;
            downs[room] = down;
            rings[room] = ring;
            cells[cellOf(across, down)] = room;
        }

        private void joinRooms() {
            for (int room = 0; room < MOST_ROOMS; room++) {
                for (int side = 0; side < SIDES; side++) {
                    int across = acrosses[room] + STEP_ACROSS[side];
                    int down = downs[room] + STEP_DOWN[side];
                    neighbours[doorOf(room, side)] = roomAt(across, down);
                }
            }
        }
    }
}
