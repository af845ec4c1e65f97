import java.util.function.Supplier;
import java.util.stream.IntStream;

/**
 * Houses to test with, where their rooms are by the document's own words, and what can be seen of
 * them. No object is asked more than 512 times: what later calls answer is free.
 */
final class Houses {
    static final int MIN = Integer.MIN_VALUE;
    static final int MAX = Integer.MAX_VALUE;
    static final int MOST_RINGS = 5;
    static final Class<?> INDEX = IndexOutOfBoundsException.class;
    static final Class<?> ARGUMENT = IllegalArgumentException.class;
    static final Class<?> STATE = IllegalStateException.class;

    /** How many rooms, and how many doors, a house of so many rings has. */
    static final int[] ROOMS = {1, 7, 19, 37, 61, 91};
    static final int[] DOORS = {0, 12, 42, 90, 156, 240};
    /** The first and the last room of each ring. */
    static final int[] FIRST = {0, 1, 7, 19, 37, 61};
    static final int[] LAST = {0, 6, 18, 36, 60, 90};

    static final int[] ACROSS = {1, 0, -1, -1, 0, 1};
    static final int[] DOWN = {0, 1, 1, 0, -1, -1};
    /** Across, down and ring of each room, by the walk round each ring. */
    static final int[][] PLACES = places();
    /** The room beside each one by each side, or -1, in a house of so many rings. */
    static final int[][][] BESIDE = besides();

    interface Ask {
        Object of(HexRooms house);
    }

    private Houses() {
    }

    static HexRooms empty(int rings) {
        HexRooms house = new HexRooms();
        house.setRings(rings);
        return house;
    }

    static HexRooms with(HexRooms house, int floor, int... rooms) {
        for (int room : rooms) {
            house.put(room, floor);
        }
        return house;
    }

    static HexRooms full(int rings, int floor) {
        return with(empty(rings), floor, IntStream.range(0, ROOMS[rings]).toArray());
    }

    /** Of everything something, and no turn by less than once round leaves it as it is. */
    static HexRooms mixed(int rings) {
        HexRooms house = empty(rings);
        for (int room = 0; room < ROOMS[rings]; room++) {
            house.put(room, mixedFloor(room));
        }
        for (int room = 0; room < ROOMS[rings]; room += 3) {
            if (BESIDE[rings][room][room / 3 % 6] != -1) {
                house.shut(room, room / 3 % 6, true);
            }
        }
        return house;
    }

    static int mixedFloor(int room) {
        return (room * room / 4 + room / 3 + 2) % 3;
    }

    static HexRooms shutAll(int rings) {
        HexRooms house = empty(rings);
        for (int room = 0; room < ROOMS[rings]; room++) {
            for (int side = 0; side < 3; side++) {
                if (BESIDE[rings][room][side] != -1) {
                    house.shut(room, side, true);
                }
            }
        }
        return house;
    }

    /**
     * The rooms of 5 rings in a row, each beside the one ahead of it: the odd rings on from their
     * first rooms, the even ones back from their last ones.
     */
    static int[] snake() {
        int[] rooms = new int[ROOMS[MOST_RINGS]];
        int end = 1;
        for (int ring = 1; ring <= MOST_RINGS; ring++) {
            for (int place = 0; place < 6 * ring; place++) {
                rooms[end++] = ring % 2 == 1 ? FIRST[ring] + place : LAST[ring] - place;
            }
        }
        return rooms;
    }

    /** A house where just the doors along the snake are open. */
    static HexRooms snakeHouse() {
        int[] at = new int[ROOMS[MOST_RINGS]];
        int[] rooms = snake();
        for (int i = 0; i < rooms.length; i++) {
            at[rooms[i]] = i;
        }
        HexRooms house = empty(MOST_RINGS);
        for (int room = 0; room < rooms.length; room++) {
            for (int side = 0; side < 3; side++) {
                int next = BESIDE[MOST_RINGS][room][side];
                if (next != -1 && Math.abs(at[room] - at[next]) != 1) {
                    house.shut(room, side, true);
                }
            }
        }
        return house;
    }

    /** Numbers below 0, and from the end on: also such as come round into it when multiplied. */
    static int[] outside(int end) {
        return IntStream.of(MIN, MIN + 1, -715827883, -100, -end, -2, -1, end, end + 1, 2 * end, 7,
                        19, 29, 30, 37, 61, 90, 91, 99, 100, 715827883, 1 << 30, MAX - 1, MAX)
                .filter(n -> n < 0 || n >= end).distinct().toArray();
    }

    static int[] floors(HexRooms house) {
        return IntStream.range(0, house.count(0)).map(room -> house.about(room, 3)).toArray();
    }

    /** What stands where, which doors are shut, what would be, and how it goes on from there. */
    static String portrait(HexRooms house) {
        int rings = house.count(1);
        StringBuilder seen = new StringBuilder("rings " + rings + " floors ");
        for (int floor : floors(house)) {
            seen.append(floor);
        }
        seen.append(" doors ");
        for (int room = 0; room < ROOMS[rings]; room++) {
            for (int side = 0; side < 3; side++) {
                if (BESIDE[rings][room][side] != -1) {
                    seen.append(house.isShut(room, side) ? 'x' : 'o');
                }
            }
        }
        seen.append(" digest ").append(house.digest());
        seen.append(" lit ").append(house.count(5)).append(" mean ").append(house.mean());
        seen.append(" sixths ").append(house.sixthsToSame()).append(" best ").append(house.best());
        seen.append(" advise ").append(house.advise(1));
        seen.append(" then ").append(house.turnAll(1)).append(" digest ").append(house.digest());
        return seen.toString();
    }

    /** The call must throw just this, and leave the house as one on which it was not made. */
    static void dueRefused(String call, Class<?> want, Supplier<HexRooms> maker, Ask ask) {
        HexRooms house = maker.get();
        Checks.due(call, Checks.outcome(() -> ask.of(house)), "throws." + want.getSimpleName());
        Checks.due("the house after " + call, portrait(house), portrait(maker.get()));
    }

    /** The call must answer this, and leave the house as one on which it was not made. */
    static void dueAsked(String call, Object want, Supplier<HexRooms> maker, Ask ask) {
        HexRooms house = maker.get();
        Checks.due(call, Checks.outcome(() -> ask.of(house)), String.valueOf(want));
        Checks.due("the house after " + call, portrait(house), portrait(maker.get()));
    }

    /** What is far apart by the document's words: half of the three differences added. */
    static int farApart(int a, int b) {
        int across = PLACES[a][0] - PLACES[b][0];
        int down = PLACES[a][1] - PLACES[b][1];
        return (Math.abs(across) + Math.abs(down) + Math.abs(across + down)) / 2;
    }

    private static int[][] places() {
        int[][] places = new int[ROOMS[MOST_RINGS]][];
        places[0] = new int[] {0, 0, 0};
        int end = 1;
        for (int ring = 1; ring <= MOST_RINGS; ring++) {
            int across = ring;
            int down = 0;
            for (int side : new int[] {2, 3, 4, 5, 0, 1}) {
                for (int step = 0; step < ring; step++) {
                    places[end++] = new int[] {across, down, ring};
                    across += ACROSS[side];
                    down += DOWN[side];
                }
            }
        }
        return places;
    }

    private static int[][][] besides() {
        int[][][] besides = new int[MOST_RINGS + 1][][];
        for (int rings = 0; rings <= MOST_RINGS; rings++) {
            besides[rings] = new int[ROOMS[rings]][6];
            for (int room = 0; room < ROOMS[rings]; room++) {
                for (int side = 0; side < 6; side++) {
                    besides[rings][room][side] = roomAt(rings, PLACES[room][0] + ACROSS[side],
                            PLACES[room][1] + DOWN[side]);
                }
            }
        }
        return besides;
    }

    private static int roomAt(int rings, int across, int down) {
        for (int room = 0; room < ROOMS[rings]; room++) {
            if (PLACES[room][0] == across && PLACES[room][1] == down) {
                return room;
            }
        }
        return -1;
    }
}
