/** Each promise with ordinary calls, the edges that the document names, and wrong calls. */
public final class PromisesTest {
    private static final int MIN = Integer.MIN_VALUE;
    private static final int MAX = Integer.MAX_VALUE;
    private static final Class<?> INDEX = IndexOutOfBoundsException.class;
    private static final Class<?> ARGUMENT = IllegalArgumentException.class;
    private static final Class<?> STATE = IllegalStateException.class;

    /** Across and down of the 19 rooms of a house of 2 rings. */
    private static final int[][] PLACES = {
        {0, 0},
        {1, 0}, {0, 1}, {-1, 1}, {-1, 0}, {0, -1}, {1, -1},
        {2, 0}, {1, 1}, {0, 2}, {-1, 2}, {-2, 2}, {-2, 1},
        {-2, 0}, {-1, -1}, {0, -2}, {1, -2}, {2, -2}, {2, -1},
    };

    public static void main(String[] args) {
        promise1NewObject();
        promise2SetRings();
        promise3Put();
        promise4Shut();
        promise5Turn();
        promise6TurnAll();
        promise7At();
        promise8About();
        promise9Beside();
        promise10IsShut();
        promise11Far();
        promise12Sees();
        promise13Way();
        promise14Side();
        promise15Reach();
        promise16Ring();
        promise17Count();
        promise18SixthsToSame();
        promise19Would();
        promise20Advise();
        promise21Best();
        promise22Mean();
        promise23Digest();
        Checks.end();
    }

    private static HexRooms house(int rings) {
        HexRooms house = new HexRooms();
        house.setRings(rings);
        return house;
    }

    private static HexRooms with(HexRooms house, int floor, int... rooms) {
        for (int room : rooms) {
            house.put(room, floor);
        }
        return house;
    }

    private static void dueCounts(String when, HexRooms house, int... due) {
        for (int what = 0; what < due.length; what++) {
            Checks.due(when + ": count(" + what + ")", house.count(what), due[what]);
        }
    }

    private static void dueFloors(String when, HexRooms house, int first, int... due) {
        for (int i = 0; i < due.length; i++) {
            int room = first + i;
            Checks.due(when + ": about(" + room + ", 3)", house.about(room, 3), due[i]);
        }
    }

    private static void promise1NewObject() {
        HexRooms house = new HexRooms();
        dueCounts("new", house, 19, 2, 0, 0, 0, 0, 1);
        dueFloors("new", house, 0, new int[19]);
        Checks.due("new: digest()", house.digest(), house(2).digest());
        Checks.due("new: at(2, 0)", house.at(2, 0), 7);
        Checks.due("new: at(3, 0)", house.at(3, 0), -1);
    }

    private static void promise2SetRings() {
        int[] rooms = {7, 19, 37, 61, 91};
        for (int rings = 1; rings <= 5; rings++) {
            HexRooms house = with(new HexRooms(), 2, 0, 18);
            house.shut(0, 0, true);
            Checks.due("setRings(" + rings + ")", house.setRings(rings), rooms[rings - 1]);
            dueCounts("setRings(" + rings + ")", house, rooms[rings - 1], rings, 0, 0, 0, 0, 1);
            dueFloors("setRings(" + rings + ")", house, 0, new int[rooms[rings - 1]]);
            Checks.due("isShut after setRings", house.isShut(0, 0), false);
            Checks.due("isShut after setRings", house.isShut(1, 3), false);
            Checks.due("mean() after setRings", house.mean(), 0.0);
        }
        HexRooms house = with(house(5), 1, 90, 40);
        house.shut(90, 2, true);
        house.setRings(1);
        Checks.due("back to 5 rings", house.setRings(5), 91);
        dueCounts("back to 5 rings", house, 91, 5, 0, 0, 0, 0, 1);
        for (int rings : new int[] {0, 6, -1, MIN, MAX}) {
            Checks.dueThrow(with(new HexRooms(), 2, 3), "setRings(" + rings + ")", ARGUMENT,
                    () -> new HexRooms().setRings(rings));
            Checks.dueThrow(house, "setRings(" + rings + ")", ARGUMENT,
                    () -> house.setRings(rings));
        }
    }

    private static void promise3Put() {
        HexRooms house = new HexRooms();
        int before = 0;
        for (int floor : new int[] {1, 2, 2, 0, 2, 1, 1, 0}) {
            Checks.due("put(18, " + floor + ")", house.put(18, floor), before);
            dueFloors("put(18, " + floor + ")", house, 18, floor);
            before = floor;
        }
        Checks.due("put(0, 2)", house.put(0, 2), 0);
        dueFloors("put(0, 2)", house, 0, 2, 0, 0);
        Checks.due("lit by put(0, 2)", house.count(5), 13);
        Checks.due("put(0, 1)", house.put(0, 1), 2);
        Checks.due("lit after put(0, 1)", house.count(5), 0);
        int[][] wrong = {{19, 0}, {-1, 0}, {0, 3}, {0, -1}, {19, 3}, {MIN, MAX}, {MAX, 1}, {1, MIN}};
        for (int[] is : wrong) {
            Checks.dueThrow(house, "put(" + is[0] + ", " + is[1] + ")", INDEX,
                    () -> house.put(is[0], is[1]));
        }
        HexRooms small = house(1);
        Checks.dueThrow(small, "put(7, 1) in 1 ring", INDEX, () -> small.put(7, 1));
    }

    private static void promise4Shut() {
        HexRooms house = new HexRooms();
        Checks.due("shut(0, 2, true)", house.shut(0, 2, true), false);
        Checks.due("isShut(0, 2)", house.isShut(0, 2), true);
        Checks.due("isShut(3, 5)", house.isShut(3, 5), true);
        Checks.due("doors shut", house.count(4), 1);
        Checks.due("shut(3, 5, true)", house.shut(3, 5, true), true);
        Checks.due("doors shut, again", house.count(4), 1);
        Checks.due("shut(3, 5, false)", house.shut(3, 5, false), true);
        Checks.due("isShut(0, 2), opened", house.isShut(0, 2), false);
        Checks.due("shut(0, 2, false)", house.shut(0, 2, false), false);
        for (int side = 0; side < 6; side++) {
            Checks.due("shut(0, " + side + ")", house.shut(0, side, true), false);
            Checks.due("behind side " + side, house.isShut(1 + side, (side + 3) % 6), true);
        }
        Checks.due("doors shut around", house.count(4), 6);
        with(house, 2, 0);
        Checks.due("lit behind shut doors", house.count(5), 1);
        house.shut(4, 0, false);
        Checks.due("lit behind one open door", house.count(5), 3);
        Checks.dueThrow(house, "shut(7, 0, true)", STATE, () -> house.shut(7, 0, true));
        Checks.dueThrow(house, "shut(7, 0, false)", STATE, () -> house.shut(7, 0, false));
        int[][] wrong = {{19, 0}, {-1, 0}, {0, 6}, {0, -1}, {7, 6}, {7, -1}, {MIN, 0}, {0, MAX}};
        for (int[] is : wrong) {
            Checks.dueThrow(house, "shut(" + is[0] + ", " + is[1] + ", true)", INDEX,
                    () -> house.shut(is[0], is[1], true));
        }
        HexRooms small = house(1);
        Checks.dueThrow(small, "shut(1, 0, true) in 1 ring", STATE, () -> small.shut(1, 0, true));
        Checks.dueThrow(small, "shut(7, 3, true) in 1 ring", INDEX, () -> small.shut(7, 3, true));
    }

    private static void promise5Turn() {
        HexRooms house = with(with(new HexRooms(), 2, 1), 1, 2, 18);
        Checks.due("turn(1, 1)", house.turn(1, 1), 8);
        dueFloors("turn(1, 1)", house, 0, 0, 0, 2, 1, 0, 0, 0, 0);
        dueFloors("turn(1, 1)", house, 18, 1);
        Checks.due("turn(1, 5)", house.turn(1, 5), 8);
        dueFloors("turn(1, 5)", house, 1, 2, 1, 0, 0, 0, 0);
        house.turn(2, 1);
        dueFloors("turn(2, 1)", house, 7, 1, 0, 0, 0, 0, 0, 0, 0, 0, 0, 0, 0);
        house.turn(2, 29);
        dueFloors("turn(2, 29)", house, 7, 0, 0, 0, 0, 0, 1, 0, 0, 0, 0, 0, 0);
        house.turn(1, 29);
        dueFloors("turn(1, 29)", house, 1, 1, 0, 0, 0, 0, 2);
        long stands = house.digest();
        house.turn(1, 0);
        house.turn(1, 24);
        Checks.due("turn(1, 0), turn(1, 24)", house.digest(), stands);
        with(house, 2, 0);
        Checks.due("turn(0, 29)", house.turn(0, 29), house.count(5));
        dueFloors("turn(0, 29)", house, 0, 2, 1);
        house.shut(1, 0, true);
        house.turn(1, 1);
        house.turn(2, 1);
        Checks.due("a door stays", house.isShut(1, 0), true);
        Checks.due("doors that are shut stay", house.count(4), 1);
        for (int[] is : new int[][] {{0, 30}, {2, -1}, {1, MAX}, {1, MIN}}) {
            Checks.dueThrow(house, "turn(" + is[0] + ", " + is[1] + ")", ARGUMENT,
                    () -> house.turn(is[0], is[1]));
        }
        for (int[] is : new int[][] {{3, 0}, {-1, 0}, {3, 30}, {-1, -1}, {MIN, 1}, {MAX, 1}}) {
            Checks.dueThrow(house, "turn(" + is[0] + ", " + is[1] + ")", INDEX,
                    () -> house.turn(is[0], is[1]));
        }
        HexRooms large = with(house(5), 1, 61);
        large.turn(5, 29);
        dueFloors("turn(5, 29)", large, 90, 1);
        large.turn(5, 2);
        dueFloors("turn(5, 2)", large, 62, 1);
    }

    private static void promise6TurnAll() {
        HexRooms house = with(with(house(3), 2, 0, 1, 7), 1, 19, 36);
        Checks.due("turnAll(1)", house.turnAll(1), house.count(5));
        dueFloors("turnAll(1)", house, 0, 2, 0, 2, 0, 0, 0, 0);
        dueFloors("turnAll(1)", house, 7, 0, 0, 2, 0);
        dueFloors("turnAll(1)", house, 19, 0, 0, 1, 1, 0);
        house.turnAll(5);
        dueFloors("turnAll(5)", house, 0, 2, 2, 0, 0, 0, 0, 0, 2, 0);
        dueFloors("turnAll(5)", house, 19, 1, 0);
        dueFloors("turnAll(5)", house, 35, 0, 1);
        long stands = house.digest();
        house.turnAll(0);
        Checks.due("turnAll(0)", house.digest(), stands);
        HexRooms one = with(house(1), 2, 1);
        one.shut(1, 3, true);
        Checks.due("turnAll(0) lights", one.turnAll(0), 3);
        Checks.due("turnAll(3) lights", one.turnAll(3), 4);
        Checks.due("a door stays", one.isShut(0, 0), true);
        for (int by : new int[] {6, -1, MIN, MAX}) {
            Checks.dueThrow(house, "turnAll(" + by + ")", ARGUMENT, () -> house.turnAll(by));
        }
    }

    private static void promise7At() {
        HexRooms house = new HexRooms();
        int found = 0;
        for (int across = -7; across <= 7; across++) {
            for (int down = -7; down <= 7; down++) {
                int room = house.at(across, down);
                found += room == -1 ? 0 : 1;
            }
        }
        Checks.due("rooms at places", found, 19);
        for (int room = 0; room < 19; room++) {
            int[] is = PLACES[room];
            Checks.due("at(" + is[0] + ", " + is[1] + ")", house.at(is[0], is[1]), room);
        }
        int[][] none = {{3, 0}, {1, 2}, {2, 1}, {-2, -1}, {-1, -2}, {0, 3}, {0, -3}, {-3, 0},
            {MAX, 1}, {MIN, 0}, {0, MIN}, {0, MAX}, {MAX, MIN}, {MIN, MIN}, {MAX, MAX}, {6, 0},
            {-6, 0}, {0, 6}, {0, -6}, {6, -6}, {-6, 1}, {5, 0}, {6, -1}};
        for (int[] is : none) {
            Checks.due("at(" + is[0] + ", " + is[1] + ")", house.at(is[0], is[1]), -1);
        }
        HexRooms small = house(1);
        Checks.due("at(2, 0) in 1 ring", small.at(2, 0), -1);
        Checks.due("at(1, -1) in 1 ring", small.at(1, -1), 6);
        HexRooms large = house(5);
        int[][] corners = {{5, 0, 61}, {0, 5, 66}, {-5, 5, 71}, {-5, 0, 76}, {0, -5, 81},
            {5, -5, 86}, {5, -1, 90}, {4, -4, 57}, {3, 0, 19}};
        for (int[] is : corners) {
            Checks.due("at(" + is[0] + ", " + is[1] + ") in 5", large.at(is[0], is[1]), is[2]);
        }
        Checks.due("at(4, 2) in 5", large.at(4, 2), -1);
        Checks.due("at(6, -1) in 5", large.at(6, -1), -1);
        Checks.due("at(-5, -1) in 5", large.at(-5, -1), -1);
    }

    private static void promise8About() {
        HexRooms house = new HexRooms();
        for (int room = 0; room < 19; room++) {
            Checks.due("about(" + room + ", 0)", house.about(room, 0), PLACES[room][0]);
            Checks.due("about(" + room + ", 1)", house.about(room, 1), PLACES[room][1]);
            int ring = room == 0 ? 0 : room < 7 ? 1 : 2;
            Checks.due("about(" + room + ", 2)", house.about(room, 2), ring);
        }
        Checks.due("about(0, 5), open", house.about(0, 5), 6);
        Checks.due("about(7, 5), a corner", house.about(7, 5), 3);
        Checks.due("about(8, 5), an edge", house.about(8, 5), 4);
        with(house, 2, 0, 1, 13);
        Checks.due("about(0, 4), lamps of a line and its own", house.about(0, 4), 3);
        Checks.due("about(7, 4)", house.about(7, 4), 3);
        Checks.due("about(2, 4)", house.about(2, 4), 2);
        Checks.due("about(9, 4)", house.about(9, 4), 1);
        house.put(1, 1);
        Checks.due("about(1, 3)", house.about(1, 3), 1);
        Checks.due("about(1, 4), a wall", house.about(1, 4), 0);
        Checks.due("about(7, 4), behind a wall", house.about(7, 4), 0);
        Checks.due("about(1, 5), out of a wall", house.about(1, 5), 6);
        Checks.due("about(0, 5), beside a wall", house.about(0, 5), 5);
        house.shut(2, 4, true);
        Checks.due("about(0, 5), and a shut door", house.about(0, 5), 4);
        Checks.due("about(2, 5), and a shut door", house.about(2, 5), 4);
        Checks.due("about(2, 4), behind a shut door", house.about(2, 4), 0);
        int[][] wrong = {{19, 0}, {-1, 0}, {0, 6}, {0, -1}, {MIN, 0}, {MAX, 5}, {0, MAX}, {0, MIN}};
        for (int[] is : wrong) {
            Checks.dueThrow(house, "about(" + is[0] + ", " + is[1] + ")", INDEX,
                    () -> house.about(is[0], is[1]));
        }
    }

    private static void promise9Beside() {
        HexRooms house = new HexRooms();
        int[][] due = {{1, 2, 3, 4, 5, 6}, {7, 8, 2, 0, 6, 18}};
        for (int room = 0; room < due.length; room++) {
            for (int side = 0; side < 6; side++) {
                Checks.due("beside(" + room + ", " + side + ")", house.beside(room, side),
                        due[room][side]);
            }
        }
        int[] corner = {-1, -1, 8, 1, 18, -1};
        int[] last = {-1, 7, 1, 6, 17, -1};
        for (int side = 0; side < 6; side++) {
            Checks.due("beside(7, " + side + ")", house.beside(7, side), corner[side]);
            Checks.due("beside(18, " + side + ")", house.beside(18, side), last[side]);
        }
        with(house, 1, 1);
        house.shut(0, 1, true);
        Checks.due("beside(0, 0), a wall", house.beside(0, 0), 1);
        Checks.due("beside(0, 1), a shut door", house.beside(0, 1), 2);
        HexRooms large = house(3);
        Checks.due("beside(7, 0) in 3 rings", large.beside(7, 0), 19);
        large.setRings(1);
        Checks.due("beside(1, 0) in 1 ring", large.beside(1, 0), -1);
        int[][] wrong = {{7, 0}, {-1, 0}, {0, 6}, {0, -1}, {MIN, 0}, {MAX, 0}, {0, MAX}, {0, MIN}};
        for (int[] is : wrong) {
            Checks.dueThrow(large, "beside(" + is[0] + ", " + is[1] + ")", INDEX,
                    () -> large.beside(is[0], is[1]));
        }
    }

    private static void promise10IsShut() {
        HexRooms house = new HexRooms();
        Checks.due("isShut(18, 1)", house.isShut(18, 1), false);
        house.shut(18, 1, true);
        Checks.due("isShut(18, 1), shut", house.isShut(18, 1), true);
        Checks.due("isShut(7, 4), shut", house.isShut(7, 4), true);
        Checks.due("isShut(7, 3)", house.isShut(7, 3), false);
        with(house, 1, 8);
        Checks.due("isShut(7, 2), a wall", house.isShut(7, 2), false);
        Checks.dueThrow(house, "isShut(7, 0)", STATE, () -> house.isShut(7, 0));
        Checks.dueThrow(house, "isShut(18, 5)", STATE, () -> house.isShut(18, 5));
        int[][] wrong = {{19, 0}, {-1, 0}, {0, 6}, {0, -1}, {7, 6}, {MIN, 0}, {MAX, 0}, {7, MIN}};
        for (int[] is : wrong) {
            Checks.dueThrow(house, "isShut(" + is[0] + ", " + is[1] + ")", INDEX,
                    () -> house.isShut(is[0], is[1]));
        }
    }

    private static void promise11Far() {
        HexRooms house = new HexRooms();
        int[][] due = {{0, 0, 0}, {7, 13, 4}, {10, 16, 4}, {1, 2, 1}, {1, 3, 2}, {8, 14, 4},
            {7, 9, 2}, {11, 17, 4}, {12, 18, 4}, {9, 17, 4}, {0, 8, 2}, {13, 11, 2}, {5, 10, 3}};
        for (int[] is : due) {
            Checks.due("far(" + is[0] + ", " + is[1] + ")", house.far(is[0], is[1]), is[2]);
            Checks.due("far(" + is[1] + ", " + is[0] + ")", house.far(is[1], is[0]), is[2]);
        }
        with(house, 1, 1, 2, 3, 4, 5, 6);
        Checks.due("far(0, 1), a wall", house.far(0, 1), 1);
        int[][] wrong = {{0, 19}, {19, 0}, {-1, 0}, {0, -1}, {MIN, MAX}, {MAX, 0}, {0, MIN}};
        for (int[] is : wrong) {
            Checks.dueThrow(house, "far(" + is[0] + ", " + is[1] + ")", INDEX,
                    () -> house.far(is[0], is[1]));
        }
    }

    private static void dueSees(HexRooms house, int a, int b, boolean due) {
        Checks.due("sees(" + a + ", " + b + ")", house.sees(a, b), due);
    }

    private static void promise12Sees() {
        HexRooms house = with(new HexRooms(), 2, 1);
        dueSees(house, 0, 0, true);
        dueSees(house, 0, 7, true);
        dueSees(house, 13, 7, true);
        dueSees(house, 0, 8, false);
        dueSees(house, 2, 12, true);
        dueSees(house, 2, 13, false);
        with(house, 1, 1);
        dueSees(house, 0, 1, false);
        dueSees(house, 0, 7, false);
        dueSees(house, 1, 1, true);
        dueSees(house, 1, 7, true);
        dueSees(house, 1, 13, true);
        dueSees(house, 7, 1, false);
        house.shut(4, 3, true);
        dueSees(house, 1, 13, false);
        dueSees(house, 1, 4, true);
        dueSees(house, 13, 4, false);
        house.shut(4, 3, false);
        dueSees(house, 13, 0, true);
        int[][] wrong = {{0, 19}, {19, 0}, {-1, 0}, {0, -1}, {MIN, 0}, {0, MAX}};
        for (int[] is : wrong) {
            Checks.dueThrow(house, "sees(" + is[0] + ", " + is[1] + ")", INDEX,
                    () -> house.sees(is[0], is[1]));
        }
    }

    private static void dueWay(HexRooms house, int a, int b, int due) {
        Checks.due("way(" + a + ", " + b + ")", house.way(a, b), due);
    }

    private static void promise13Way() {
        HexRooms house = new HexRooms();
        dueWay(house, 0, 0, 0);
        dueWay(house, 7, 13, 4);
        dueWay(house, 0, 8, 2);
        with(house, 1, 1);
        dueWay(house, 0, 7, 3);
        dueWay(house, 0, 1, -1);
        dueWay(house, 1, 0, 1);
        dueWay(house, 1, 1, 0);
        with(house, 1, 8, 18);
        dueWay(house, 0, 7, -1);
        dueWay(house, 7, 0, -1);
        dueWay(house, 8, 7, 1);
        house.put(1, 2);
        dueWay(house, 0, 7, 2);
        house.shut(7, 3, true);
        dueWay(house, 0, 7, -1);
        HexRooms large = house(5);
        dueWay(large, 61, 76, 10);
        for (int side = 0; side < 5; side++) {
            large.shut(0, side, true);
        }
        dueWay(large, 0, 3, 4);
        int[][] wrong = {{0, 19}, {19, 0}, {-1, 0}, {0, -1}, {MIN, 0}, {0, MAX}};
        for (int[] is : wrong) {
            Checks.dueThrow(house, "way(" + is[0] + ", " + is[1] + ")", INDEX,
                    () -> house.way(is[0], is[1]));
        }
    }

    private static void dueSide(HexRooms house, int a, int b, int due) {
        Checks.due("side(" + a + ", " + b + ")", house.side(a, b), due);
    }

    private static void promise14Side() {
        HexRooms house = new HexRooms();
        dueSide(house, 0, 0, -1);
        for (int side = 0; side < 6; side++) {
            dueSide(house, 0, 1 + side, side);
            dueSide(house, 1 + side, 0, (side + 3) % 6);
            dueSide(house, 0, 7 + 2 * side, side);
        }
        dueSide(house, 0, 8, 0);
        dueSide(house, 8, 0, 3);
        dueSide(house, 0, 18, 0);
        dueSide(house, 0, 16, 4);
        house.shut(0, 0, true);
        dueSide(house, 0, 8, 1);
        dueSide(house, 0, 1, 1);
        with(house, 1, 2);
        dueSide(house, 0, 1, 5);
        dueSide(house, 0, 2, -1);
        dueSide(house, 2, 0, 4);
        dueSide(house, 2, 2, -1);
        with(house, 1, 1, 8, 18);
        dueSide(house, 0, 7, -1);
        dueSide(house, 18, 7, 1);
        int[][] wrong = {{0, 19}, {19, 0}, {19, 19}, {-1, 0}, {0, -1}, {-1, -1}, {MIN, 0}, {0, MAX}};
        for (int[] is : wrong) {
            Checks.dueThrow(house, "side(" + is[0] + ", " + is[1] + ")", INDEX,
                    () -> house.side(is[0], is[1]));
        }
    }

    private static void dueReach(HexRooms house, int room, int steps, int due) {
        Checks.due("reach(" + room + ", " + steps + ")", house.reach(room, steps), due);
    }

    private static void promise15Reach() {
        HexRooms house = new HexRooms();
        int[] due = {1, 7, 19, 19};
        for (int steps = 0; steps < due.length; steps++) {
            dueReach(house, 0, steps, due[steps]);
        }
        dueReach(house, 0, 99, 19);
        dueReach(house, 7, 1, 4);
        dueReach(house, 7, 3, 14);
        dueReach(house, 7, 4, 19);
        with(house, 1, 1, 8, 18);
        dueReach(house, 7, 99, 1);
        dueReach(house, 0, 99, 15);
        dueReach(house, 1, 0, 1);
        dueReach(house, 1, 1, 5);
        dueReach(house, 1, 99, 17);
        dueReach(house(5), 0, 5, 91);
        dueReach(house(5), 61, 9, 80);
        for (int[] is : new int[][] {{0, 100}, {0, -1}, {18, MAX}, {1, MIN}}) {
            Checks.dueThrow(house, "reach(" + is[0] + ", " + is[1] + ")", ARGUMENT,
                    () -> house.reach(is[0], is[1]));
        }
        for (int[] is : new int[][] {{19, 0}, {-1, 0}, {19, 100}, {-1, -1}, {MIN, 0}, {MAX, 0}}) {
            Checks.dueThrow(house, "reach(" + is[0] + ", " + is[1] + ")", INDEX,
                    () -> house.reach(is[0], is[1]));
        }
    }

    private static void dueRing(HexRooms house, int ring, int... due) {
        for (int what = 0; what < due.length; what++) {
            Checks.due("ring(" + ring + ", " + what + ")", house.ring(ring, what), due[what]);
        }
    }

    private static void promise16Ring() {
        HexRooms house = with(with(new HexRooms(), 2, 0, 1), 1, 2, 7, 10, 18);
        dueRing(house, 0, 1, 0, 1, 1);
        dueRing(house, 1, 6, 1, 1, 5);
        dueRing(house, 2, 12, 3, 0, 6);
        HexRooms large = house(5);
        for (int ring = 1; ring <= 5; ring++) {
            dueRing(large, ring, 6 * ring, 0, 0, 0);
        }
        large.put(0, 1);
        dueRing(large, 0, 1, 1, 0, 0);
        int[][] wrong = {{3, 0}, {-1, 0}, {0, 4}, {0, -1}, {MIN, 0}, {MAX, 0}, {1, MIN}, {1, MAX}};
        for (int[] is : wrong) {
            Checks.dueThrow(house, "ring(" + is[0] + ", " + is[1] + ")", INDEX,
                    () -> house.ring(is[0], is[1]));
        }
        Checks.dueThrow(large, "ring(6, 0) in 5 rings", INDEX, () -> large.ring(6, 0));
    }

    private static void promise17Count() {
        HexRooms house = with(with(new HexRooms(), 1, 1, 2, 3, 4, 5, 6), 2, 0, 7);
        dueCounts("walls around", house, 19, 2, 6, 2, 0, 6, 2);
        house.shut(7, 2, true);
        dueCounts("a door in the ring", house, 19, 2, 6, 2, 1, 4, 2);
        house.shut(9, 5, true);
        dueCounts("the room 8 apart", house, 19, 2, 6, 2, 2, 4, 3);
        house.shut(13, 1, true);
        house.shut(13, 5, true);
        dueCounts("the room 13 apart", house, 19, 2, 6, 2, 4, 4, 5);
        HexRooms one = house(1);
        for (int side = 0; side < 6; side++) {
            one.shut(0, side, true);
        }
        dueCounts("doors around", one, 7, 1, 0, 0, 6, 0, 2);
        with(one, 1, 0);
        dueCounts("a wall within", one, 7, 1, 1, 0, 6, 0, 1);
        with(one, 1, 1, 2, 3, 4, 5, 6);
        dueCounts("all walls", one, 7, 1, 7, 0, 6, 0, 0);
        with(one, 2, 1, 3, 5);
        dueCounts("three lamps", one, 7, 1, 4, 3, 6, 3, 3);
        for (int what : new int[] {7, -1, MIN, MAX}) {
            Checks.dueThrow(house, "count(" + what + ")", INDEX, () -> house.count(what));
        }
    }

    private static void dueSixths(String when, HexRooms house, int due) {
        Checks.due("sixthsToSame(), " + when, house.sixthsToSame(), due);
    }

    private static void promise18SixthsToSame() {
        HexRooms house = new HexRooms();
        dueSixths("empty", house, 1);
        with(house, 2, 0);
        house.shut(0, 0, true);
        dueSixths("a lamp and a door in the middle", house, 1);
        with(house, 2, 1, 4);
        dueSixths("two lamps across", house, 3);
        with(house, 1, 8, 14);
        dueSixths("two walls across", house, 3);
        with(house, 1, 10, 12, 16, 18);
        dueSixths("six walls, but two lamps", house, 3);
        with(house, 2, 2, 3, 5, 6);
        dueSixths("six walls and six lamps", house, 1);
        with(house, 0, 2, 4, 6);
        dueSixths("three lamps", house, 2);
        with(house, 0, 8, 14, 10, 16);
        dueSixths("three lamps, but two walls across", house, 6);
        with(house, 1, 8, 14);
        with(house, 0, 12, 18, 8, 14);
        with(house, 1, 8, 12, 16);
        dueSixths("three lamps and three walls", house, 2);
        with(house, 2, 8);
        dueSixths("a lamp among the walls", house, 6);
        long before = house.digest();
        house.sixthsToSame();
        Checks.due("digest() after sixthsToSame()", house.digest(), before);
        dueSixths("a wall in ring 5", with(house(5), 1, 90), 6);
    }

    private static void promise19Would() {
        HexRooms house = with(with(new HexRooms(), 2, 1), 1, 7);
        int[] due = {10, 11, 11, 10, 11, 11};
        long before = house.digest();
        for (int by = 0; by < 6; by++) {
            Checks.due("would(1, " + by + ")", house.would(1, by), due[by]);
        }
        Checks.due("would(2, 0)", house.would(2, 0), 10);
        Checks.due("would(2, 1), the wall in 8", house.would(2, 1), 10);
        Checks.due("would(2, 2), the wall in 9", house.would(2, 2), 11);
        Checks.due("would(2, 11), the wall in 18", house.would(2, 11), 10);
        Checks.due("would(0, 0)", house.would(0, 0), 10);
        Checks.due("digest() after would()", house.digest(), before);
        Checks.due("count(5) after would()", house.count(5), 10);
        for (int[] is : new int[][] {{0, 1}, {1, 6}, {2, 12}, {0, -1}, {2, MAX}, {1, MIN}}) {
            Checks.dueThrow(house, "would(" + is[0] + ", " + is[1] + ")", ARGUMENT,
                    () -> house.would(is[0], is[1]));
        }
        for (int[] is : new int[][] {{3, 0}, {-1, 0}, {3, 99}, {-1, -1}, {MIN, 0}, {MAX, 0}}) {
            Checks.dueThrow(house, "would(" + is[0] + ", " + is[1] + ")", INDEX,
                    () -> house.would(is[0], is[1]));
        }
    }

    private static void promise20Advise() {
        HexRooms house = with(new HexRooms(), 2, 1);
        Checks.due("advise(1), all the same", house.advise(1), 0);
        with(house, 1, 7);
        long before = house.digest();
        Checks.due("advise(0)", house.advise(0), 0);
        Checks.due("advise(1), not by 0 or 3", house.advise(1), 1);
        Checks.due("advise(2), not by 0 or 1", house.advise(2), 2);
        Checks.due("digest() after advise()", house.digest(), before);
        house.turn(1, 1);
        Checks.due("advise(1), already best", house.advise(1), 0);
        HexRooms large = with(house(5), 2, 90);
        for (int side = 1; side <= 4; side++) {
            large.shut(90, side, true);
        }
        Checks.due("would(5, 0), behind shut doors", large.would(5, 0), 1);
        Checks.due("would(5, 1), a corner beside a shut door", large.would(5, 1), 16);
        Checks.due("would(5, 2)", large.would(5, 2), 21);
        Checks.due("advise(5)", large.advise(5), 2);
        HexRooms last = with(with(house(1), 2, 2), 1, 0);
        for (int room = 2; room <= 5; room++) {
            last.shut(room, (room + 1) % 6, true);
        }
        Checks.due("advise(1), three are lit only from 1", last.advise(1), 5);
        Checks.due("turn(1, 5)", last.turn(1, 5), 3);
        Checks.due("advise(1), as it is", last.advise(1), 0);
        for (int ring : new int[] {3, -1, MIN, MAX}) {
            Checks.dueThrow(house, "advise(" + ring + ")", INDEX, () -> house.advise(ring));
        }
    }

    private static void promise21Best() {
        HexRooms house = new HexRooms();
        Checks.due("best(), empty", house.best(), 0);
        with(house, 1, 0);
        Checks.due("best(), a wall in the middle", house.best(), 8);
        HexRooms one = with(house(1), 2, 0);
        Checks.due("best(), all are lit", one.best(), 1);
        with(one, 2, 1, 2, 3, 4, 5);
        Checks.due("best(), one is left", one.best(), 6);
        with(one, 1, 6);
        long before = one.digest();
        Checks.due("best(), none is left", one.best(), -1);
        Checks.due("digest() after best()", one.digest(), before);
        HexRooms apart = with(house(1), 1, 1, 2, 4, 5);
        for (int side = 0; side < 6; side++) {
            apart.shut(0, side, side != 5);
        }
        Checks.due("best(), 0 and 6 of two rooms", apart.best(), 0);
        apart.put(0, 2);
        Checks.due("best(), only 3 is dark", apart.best(), 3);
        apart.put(3, 2);
        Checks.due("best(), 6 is lit already", apart.best(), 6);
    }

    private static void promise22Mean() {
        HexRooms house = house(1);
        Checks.due("mean(), no lamp", house.mean(), 0.0);
        with(house, 2, 0);
        Checks.due("mean(), one lamp", house.mean(), 1.0);
        with(house, 2, 1);
        Checks.due("mean(), two lamps", house.mean(), 12.0 / 7);
        with(house, 2, 4);
        Checks.due("mean(), three lamps", house.mean(), 17.0 / 7);
        with(house, 1, 0);
        Checks.due("mean(), a wall between them", house.mean(), 1.0);
        with(house, 0, 1);
        Checks.due("mean(), one and a wall", house.mean(), 1.0);
        with(house, 1, 4);
        Checks.due("mean(), only walls", house.mean(), 0.0);
    }

    private static void promise23Digest() {
        HexRooms[] houses = {new HexRooms(), house(1), new HexRooms(), with(house(1), 2, 0, 6)};
        with(houses[0], 2, 1, 5);
        with(houses[0], 1, 7, 11);
        houses[0].shut(1, 3, true);
        houses[0].shut(18, 1, true);
        for (HexRooms house : houses) {
            long digest = house.digest();
            Checks.due("digest()", digest, digestOf(house));
            Checks.due("digest(), once more", house.digest(), digest);
        }
        Checks.due("digest(), another house", houses[0].digest() != houses[1].digest(), true);
    }

    private static long digestOf(HexRooms house) {
        long d = 1733;
        for (int what = 0; what <= 6; what++) {
            d = d * 31 + house.count(what);
        }
        for (int room = 0; room < house.count(0); room++) {
            for (int what = 0; what <= 5; what++) {
                d = d * 31 + house.about(room, what);
            }
            for (int side = 0; side <= 5; side++) {
                boolean door = house.beside(room, side) != -1;
                d = d * 31 + (door && house.isShut(room, side) ? 1 : 0);
            }
        }
        for (int ring = 0; ring <= house.count(1); ring++) {
            for (int what = 0; what <= 3; what++) {
                d = d * 31 + house.ring(ring, what);
            }
        }
        return d;
    }
}
