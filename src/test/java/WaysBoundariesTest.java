/** Promises 13 to 15 at their edges: a test for each sentence that names one. */
public final class WaysBoundariesTest {
    public static void main(String[] args) {
        Checks.runTests(WaysBoundariesTest.class, 13, 15);
    }

    private static void dueWay(HexRooms house, int a, int b, int due) {
        Checks.due("way(" + a + ", " + b + ")", house.way(a, b), due);
    }

    private static void dueSide(HexRooms house, int a, int b, int due) {
        Checks.due("side(" + a + ", " + b + ")", house.side(a, b), due);
    }

    private static void dueReach(HexRooms house, int room, int steps, int due) {
        Checks.due("reach(" + room + ", " + steps + ")", house.reach(room, steps), due);
    }

    private interface AskOfTwo {
        Object of(HexRooms house, int a, int b);
    }

    private static void dueNoSuchRoom(String name, AskOfTwo ask) {
        for (int had = 1; had <= 5; had++) {
            int rings = had;
            for (int room : Houses.outside(Houses.ROOMS[rings])) {
                for (int[] is : new int[][] {{room, 0}, {0, room}, {room, room}}) {
                    Houses.dueRefused(name + "(" + is[0] + ", " + is[1] + ") in " + rings,
                            Houses.INDEX, () -> Houses.mixed(rings),
                            h -> ask.of(h, is[0], is[1]));
                }
            }
        }
    }

    // ---- promise 13

    /** "0 if they are the same": also in a wall, and where no side leads on. */
    static void promise13_is0IfTheyAreTheSame() {
        for (int floor = 0; floor <= 2; floor++) {
            HexRooms house = Houses.with(Houses.shutAll(5), floor, 0, 1, 90);
            dueWay(house, 0, 0, 0);
            dueWay(house, 1, 1, 0);
            dueWay(house, 90, 90, 0);
            dueWay(Houses.full(1, floor), 6, 6, 0);
        }
    }

    /** "the steps of the shortest way": in an open house, as many as the rooms are far apart. */
    static void promise13_isTheShortestOfAll() {
        for (int rings = 1; rings <= 5; rings++) {
            for (int a = 0; a < Houses.ROOMS[rings]; a++) {
                HexRooms house = Houses.empty(rings);
                for (int b = 0; b < Houses.ROOMS[rings]; b++) {
                    dueWay(house, a, b, Houses.farApart(a, b));
                }
            }
        }
    }

    /** "it has so many steps": the longest way that there can be goes through all 91 rooms. */
    static void promise13_countsTheStepsOfTheLongestWay() {
        HexRooms house = Houses.snakeHouse();
        int[] rooms = Houses.snake();
        for (int i = 0; i < rooms.length; i++) {
            dueWay(house, 0, rooms[i], i);
            dueWay(house, rooms[i], 90, 90 - i);
        }
        dueWay(house, 90, 0, 90);
        house.shut(7, 0, true);
        dueWay(house, 0, 7, 18);
        dueWay(house, 0, 19, -1);
    }

    /** "-1 without one": behind shut doors, behind walls, into a wall. */
    static void promise13_isNoneWithoutAWay() {
        HexRooms doors = Houses.shutAll(1);
        dueWay(doors, 0, 1, -1);
        dueWay(doors, 1, 0, -1);
        doors.shut(3, 5, false);
        dueWay(doors, 0, 3, 1);
        dueWay(doors, 0, 4, -1);
        HexRooms walls = Houses.with(new HexRooms(), 1, 1, 2, 3, 4, 5, 6);
        dueWay(walls, 0, 7, -1);
        dueWay(walls, 18, 0, -1);
        dueWay(walls, 7, 13, 6);
        walls.put(1, 2);
        dueWay(walls, 0, 7, 2);
    }

    /** "So one can go out of a room with a wall, but never into one." */
    static void promise13_goesOutOfAWallButNotIntoOne() {
        HexRooms house = Houses.with(new HexRooms(), 1, 1);
        dueWay(house, 1, 0, 1);
        dueWay(house, 1, 13, 3);
        dueWay(house, 0, 1, -1);
        dueWay(house, 7, 1, -1);
        dueWay(house, 0, 7, 3);
        house.put(0, 1);
        dueWay(house, 1, 0, -1);
        dueWay(house, 0, 1, -1);
        dueWay(house, 0, 7, 3);
    }

    /** "Throws IndexOutOfBoundsException if there is no such room": the first, the second, both. */
    static void promise13_refusesNoSuchRoom() {
        dueNoSuchRoom("way", (h, a, b) -> h.way(a, b));
    }

    // ---- promise 14

    /** "-1 if they are the same": also in a wall, and where one can go on and come back. */
    static void promise14_isNoneIfTheyAreTheSame() {
        for (int floor = 0; floor <= 2; floor++) {
            HexRooms house = Houses.with(new HexRooms(), floor, 0, 18);
            dueSide(house, 0, 0, -1);
            dueSide(house, 18, 18, -1);
            dueSide(house, 1, 1, -1);
        }
    }

    /** "or without a way": behind shut doors, behind walls, into a wall. */
    static void promise14_isNoneWithoutAWay() {
        HexRooms doors = Houses.shutAll(1);
        dueSide(doors, 0, 1, -1);
        dueSide(doors, 6, 5, -1);
        HexRooms walls = Houses.with(new HexRooms(), 1, 1, 8, 18);
        dueSide(walls, 0, 7, -1);
        dueSide(walls, 7, 0, -1);
        dueSide(walls, 7, 1, -1);
        dueSide(walls, 0, 1, -1);
    }

    /** "of several the smallest number": in an open house, of those that come nearer by a step. */
    static void promise14_isTheSmallestOfSeveral() {
        for (int a = 0; a < 19; a++) {
            HexRooms house = new HexRooms();
            for (int b = 0; b < 19; b++) {
                dueSide(house, a, b, smallestNearer(a, b));
            }
        }
    }

    private static int smallestNearer(int a, int b) {
        for (int side = 0; side < 6; side++) {
            int next = Houses.BESIDE[2][a][side];
            if (next != -1 && Houses.farApart(next, b) == Houses.farApart(a, b) - 1) {
                return side;
            }
        }
        return -1;
    }

    /** "by which a shortest way goes on": not a smaller one, by which a longer way goes. */
    static void promise14_isOfAShortestWayAlone() {
        HexRooms house = new HexRooms();
        dueSide(house, 0, 6, 5);
        dueSide(house, 0, 5, 4);
        dueSide(house, 8, 2, 3);
        house.shut(0, 5, true);
        dueSide(house, 0, 6, 0);
        house.shut(0, 0, true);
        dueSide(house, 0, 6, 4);
        house.put(5, 1);
        dueSide(house, 0, 6, 1);
    }

    /** "the side by which a shortest way goes on": step by step along the longest way. */
    static void promise14_leadsAlongTheLongestWay() {
        HexRooms house = Houses.snakeHouse();
        int[] rooms = Houses.snake();
        for (int i = 0; i + 1 < rooms.length; i++) {
            int side = house.side(rooms[i], 90);
            Checks.due("side(" + rooms[i] + ", 90) is one", side >= 0 && side < 6, true);
            if (side >= 0 && side < 6) {
                Checks.due("by side(" + rooms[i] + ", 90)",
                        Houses.BESIDE[5][rooms[i]][side], rooms[i + 1]);
            }
        }
        dueSide(house, 90, 90, -1);
    }

    /** "So one can go out of a room with a wall, but never into one." */
    static void promise14_leadsOutOfAWall() {
        HexRooms house = Houses.with(new HexRooms(), 1, 0);
        for (int side = 0; side < 6; side++) {
            dueSide(house, 0, 1 + side, side);
            dueSide(house, 1 + side, 0, -1);
        }
    }

    /** "Throws IndexOutOfBoundsException if there is no such room": the first, the second, both. */
    static void promise14_refusesNoSuchRoom() {
        dueNoSuchRoom("side", (h, a, b) -> h.side(a, b));
    }

    // ---- promise 15

    /** "of so many steps or fewer": from 0 steps on, one more ring with each of them. */
    static void promise15_countsWaysOfSoManyStepsOrFewer() {
        for (int rings = 1; rings <= 5; rings++) {
            HexRooms house = Houses.empty(rings);
            for (int steps = 0; steps <= 99; steps++) {
                dueReach(house, 0, steps, Houses.ROOMS[Math.min(steps, rings)]);
            }
        }
    }

    /** "itself counted": once, also in a wall, and where no side leads on. */
    static void promise15_countsItself() {
        for (int floor = 0; floor <= 2; floor++) {
            HexRooms house = Houses.with(Houses.shutAll(2), floor, 0, 18);
            dueReach(house, 0, 0, 1);
            dueReach(house, 0, 99, 1);
            dueReach(house, 18, 99, 1);
            HexRooms open = Houses.with(new HexRooms(), floor, 0);
            dueReach(open, 0, 0, 1);
            dueReach(open, 0, 1, 7);
            dueReach(open, 0, 99, 19);
        }
        dueReach(Houses.full(1, 1), 0, 99, 1);
    }

    /** "if steps is not 0 to 99": 90 of them reach the last room of the longest way, 89 do not. */
    static void promise15_reachesTheEndOfTheLongestWay() {
        HexRooms house = Houses.snakeHouse();
        for (int steps = 0; steps <= 99; steps++) {
            dueReach(house, 0, steps, Math.min(steps, 90) + 1);
        }
        dueReach(house, 90, 89, 90);
        dueReach(house, 90, 90, 91);
    }

    /** "to how many rooms there are ways": no room with a wall, and none behind walls or doors. */
    static void promise15_countsNoRoomWithoutAWay() {
        HexRooms house = Houses.with(new HexRooms(), 1, 1, 8, 18);
        dueReach(house, 7, 99, 1);
        dueReach(house, 0, 99, 15);
        dueReach(house, 8, 1, 4);
        dueReach(house, 8, 99, 17);
        house.shut(8, 5, true);
        dueReach(house, 8, 99, 16);
    }

    /** "Throws IndexOutOfBoundsException if there is no such room" */
    static void promise15_refusesNoSuchRoom() {
        for (int had = 1; had <= 5; had++) {
            int rings = had;
            for (int room : Houses.outside(Houses.ROOMS[rings])) {
                for (int steps : new int[] {0, 99}) {
                    Houses.dueRefused("reach(" + room + ", " + steps + ")", Houses.INDEX,
                            () -> Houses.mixed(rings), h -> h.reach(room, steps));
                }
            }
        }
    }

    /** "Throws IllegalArgumentException if steps is not 0 to 99" */
    static void promise15_refusesStepsNot0To99() {
        for (int room : new int[] {0, 1, 18}) {
            for (int steps : Houses.outside(100)) {
                Houses.dueRefused("reach(" + room + ", " + steps + ")", Houses.ARGUMENT,
                        () -> Houses.mixed(2), h -> h.reach(room, steps));
            }
        }
    }

    /** "If several exceptions apply, the one that is named first is thrown" */
    static void promise15_refusesTheRoomFirst() {
        for (int[] is : new int[][] {{19, 100}, {-1, -1}, {19, -1}, {-1, 100}, {91, 1000}}) {
            Houses.dueRefused("reach(" + is[0] + ", " + is[1] + ")", Houses.INDEX,
                    () -> Houses.mixed(2), h -> h.reach(is[0], is[1]));
        }
    }
}
