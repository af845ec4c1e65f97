/** Promises 7 to 12 at their edges: a test for each sentence that names one. */
public final class RoomsBoundariesTest {
    public static void main(String[] args) {
        Checks.runTests(RoomsBoundariesTest.class, 7, 12);
    }

    private static void dueAt(HexRooms house, int across, int down, int due) {
        Checks.due("at(" + across + ", " + down + ")", house.at(across, down), due);
    }

    private static void dueAbout(HexRooms house, int room, int what, int due) {
        Checks.due("about(" + room + ", " + what + ")", house.about(room, what), due);
    }

    private static void dueSees(HexRooms house, int a, int b, boolean due) {
        Checks.due("sees(" + a + ", " + b + ")", house.sees(a, b), due);
    }

    /** Just these of the house's rooms are seen from the room. */
    private static void dueSeesJust(HexRooms house, int rooms, int a, int... seen) {
        for (int b = 0; b < rooms; b++) {
            boolean due = false;
            for (int room : seen) {
                due |= room == b;
            }
            dueSees(house, a, b, due);
        }
    }

    // ---- promise 7

    /** "The room 0 is at (0, 0)" */
    static void promise7_hasTheRoom0InTheMiddle() {
        for (int rings = 1; rings <= 5; rings++) {
            dueAt(Houses.empty(rings), 0, 0, 0);
        }
    }

    /** "its first one is at (k, 0)"; "those of the ring 1 from 1 on, those of the ring 2 from 7 on" */
    static void promise7_beginsEachRingAtItsFirstRoom() {
        HexRooms house = Houses.empty(5);
        dueAt(house, 1, 0, 1);
        dueAt(house, 2, 0, 7);
        dueAt(house, 3, 0, 19);
        dueAt(house, 4, 0, 37);
        dueAt(house, 5, 0, 61);
    }

    /** "k times by the side 2, then k times by each of the sides 3, 4, 5, 0 and 1": the corners. */
    static void promise7_turnsAtTheCorners() {
        HexRooms house = Houses.empty(5);
        for (int k = 1; k <= 5; k++) {
            int first = Houses.FIRST[k];
            dueAt(house, 0, k, first + k);
            dueAt(house, -k, k, first + 2 * k);
            dueAt(house, -k, 0, first + 3 * k);
            dueAt(house, 0, -k, first + 4 * k);
            dueAt(house, k, -k, first + 5 * k);
        }
    }

    /** "the places 0 to 6 * k - 1": the last one is beside the first one. */
    static void promise7_endsEachRingBesideItsFirstRoom() {
        HexRooms house = Houses.empty(5);
        dueAt(house, 1, -1, 6);
        dueAt(house, 2, -1, 18);
        dueAt(house, 3, -1, 36);
        dueAt(house, 4, -1, 60);
        dueAt(house, 5, -1, 90);
    }

    /** "-1 for none": each place from corner to corner, and two places beyond. */
    static void promise7_answersEachPlaceInAndAroundTheHouse() {
        for (int rings = 1; rings <= 5; rings++) {
            for (int down = -rings - 2; down <= rings + 2; down++) {
                HexRooms house = Houses.mixed(rings);
                for (int across = -rings - 2; across <= rings + 2; across++) {
                    dueAt(house, across, down, roomAt(rings, across, down));
                }
            }
        }
    }

    private static int roomAt(int rings, int across, int down) {
        for (int room = 0; room < Houses.ROOMS[rings]; room++) {
            if (Houses.PLACES[room][0] == across && Houses.PLACES[room][1] == down) {
                return room;
            }
        }
        return -1;
    }

    /** "across: a number", "down: a number": any numbers, none of which comes round to a room. */
    static void promise7_answersNoneForAnyFarPlace() {
        int[] numbers = {Houses.MIN, Houses.MIN + 1, Houses.MIN + 5, Houses.MAX, Houses.MAX - 4,
            1 << 16, -(1 << 16), 1 << 30, -(1 << 30), 390451572, -390451572, 11, -11, 121, 256};
        for (int rings = 1; rings <= 5; rings += 2) {
            HexRooms house = Houses.empty(rings);
            for (int far : numbers) {
                for (int other : new int[] {0, 1, -1, 5, -5}) {
                    dueAt(house, far, other, -1);
                    dueAt(house, other, far, -1);
                }
                dueAt(house, far, far, -1);
                dueAt(house, far, -far, -1);
                dueAt(house, far, -far + 1, -1);
            }
        }
    }

    /** "Returns the room that is there": whatever stands in it, and whichever doors are shut. */
    static void promise7_answersAlsoForWallsBehindShutDoors() {
        HexRooms house = Houses.shutAll(2);
        Houses.with(house, 1, 0, 7, 18);
        dueAt(house, 0, 0, 0);
        dueAt(house, 2, 0, 7);
        dueAt(house, 2, -1, 18);
    }

    // ---- promise 8

    /** "0 where it is across, 1 where down, 2 its ring": of each room of each house. */
    static void promise8_tellsWhereEachRoomIs() {
        for (int rings = 1; rings <= 5; rings++) {
            HexRooms house = Houses.mixed(rings);
            for (int room = 0; room < Houses.ROOMS[rings]; room++) {
                for (int what = 0; what <= 2; what++) {
                    dueAbout(house, room, what, Houses.PLACES[room][what]);
                }
            }
        }
    }

    /** "it is the ring 0"; the first and the last room of each ring are in it. */
    static void promise8_tellsTheRingsOfFirstAndLastRooms() {
        HexRooms house = Houses.empty(5);
        for (int ring = 0; ring <= 5; ring++) {
            dueAbout(house, Houses.FIRST[ring], 2, ring);
            dueAbout(house, Houses.LAST[ring], 2, ring);
        }
    }

    /** "3 what stands in it" */
    static void promise8_tellsWhatStands() {
        HexRooms house = Houses.empty(5);
        for (int room : new int[] {0, 1, 6, 7, 61, 90}) {
            for (int floor : new int[] {0, 1, 2, 0}) {
                house.put(room, floor);
                dueAbout(house, room, 3, floor);
            }
        }
    }

    /** "A lamp shines into its own room": also where no side leads on from it. */
    static void promise8_countsTheLampInTheRoomItself() {
        HexRooms house = Houses.with(Houses.shutAll(2), 2, 0, 18);
        dueAbout(house, 0, 4, 1);
        dueAbout(house, 18, 4, 1);
        dueAbout(house, 1, 4, 0);
        dueAbout(house, 0, 5, 0);
    }

    /** "by each side into the rooms .. one behind the other, as long as one can": to the rim. */
    static void promise8_countsLampsAlongTheSides() {
        for (int rings = 1; rings <= 5; rings++) {
            HexRooms house = Houses.with(Houses.empty(rings), 2, 0);
            for (int room = 0; room < Houses.ROOMS[rings]; room++) {
                int[] is = Houses.PLACES[room];
                boolean straight = is[0] == 0 || is[1] == 0 || is[0] + is[1] == 0;
                dueAbout(house, room, 4, straight ? 1 : 0);
            }
        }
    }

    /** "through rooms with lamps as well": with lamps in all rooms, each on the lines is counted. */
    static void promise8_countsLampsThroughLamps() {
        for (int rings = 1; rings <= 5; rings++) {
            HexRooms house = Houses.full(rings, 2);
            dueAbout(house, 0, 4, 1 + 6 * rings);
            dueAbout(house, Houses.FIRST[rings], 4, 1 + 4 * rings);
            dueAbout(house, Houses.LAST[rings], 4, 1 + 4 * rings);
        }
        dueAbout(Houses.full(2, 2), 1, 4, 11);
    }

    /** "and no wall is in that one": neither the wall nor what is behind it is lit. */
    static void promise8_countsNoLampBehindAWall() {
        HexRooms house = Houses.with(Houses.with(Houses.empty(3), 2, 19), 1, 1);
        dueAbout(house, 19, 4, 1);
        dueAbout(house, 7, 4, 1);
        dueAbout(house, 1, 4, 0);
        dueAbout(house, 0, 4, 0);
        dueAbout(house, 28, 4, 0);
        house.put(1, 0);
        dueAbout(house, 1, 4, 1);
        dueAbout(house, 28, 4, 1);
    }

    /** "the door between them is open": a shut one ends the light, from either room. */
    static void promise8_countsNoLampBehindAShutDoor() {
        HexRooms house = Houses.with(Houses.empty(2), 2, 7, 13);
        dueAbout(house, 0, 4, 2);
        house.shut(0, 0, true);
        dueAbout(house, 7, 4, 1);
        dueAbout(house, 1, 4, 1);
        dueAbout(house, 0, 4, 1);
        dueAbout(house, 13, 4, 1);
        house.shut(1, 3, false);
        dueAbout(house, 7, 4, 2);
        dueAbout(house, 13, 4, 2);
    }

    /** "by how many sides one can go on from it": 6 in the middle, 4 at the rim, 3 at its corners. */
    static void promise8_countsSidesAtTheRim() {
        for (int rings = 1; rings <= 5; rings++) {
            HexRooms house = Houses.empty(rings);
            for (int room = 0; room < Houses.ROOMS[rings]; room++) {
                boolean rim = Houses.PLACES[room][2] == rings;
                boolean corner = rim && (room - Houses.FIRST[rings]) % rings == 0;
                dueAbout(house, room, 5, corner ? 3 : rim ? 4 : 6);
            }
        }
    }

    /** "(also out of a wall)"; "So one can go out of a room with a wall, but never into one." */
    static void promise8_countsSidesOutOfAWallButNotIntoOne() {
        HexRooms house = Houses.with(Houses.empty(2), 1, 0);
        dueAbout(house, 0, 5, 6);
        dueAbout(house, 1, 5, 5);
        dueAbout(house, 7, 5, 3);
        Houses.with(house, 1, 1, 2, 3, 4, 5, 6);
        dueAbout(house, 0, 5, 0);
        dueAbout(house, 1, 5, 3);
        dueAbout(house, 7, 5, 2);
        dueAbout(house, 8, 5, 2);
        Houses.with(house, 2, 0, 7);
        dueAbout(house, 0, 5, 0);
        dueAbout(house, 1, 5, 4);
    }

    /** "the door between them is open" */
    static void promise8_countsNoSideWithAShutDoor() {
        HexRooms house = new HexRooms();
        for (int side = 0; side < 6; side++) {
            house.shut(0, side, true);
            dueAbout(house, 0, 5, 5 - side);
            dueAbout(house, 1 + side, 5, 5);
        }
        house.put(0, 1);
        dueAbout(house, 0, 5, 0);
    }

    /** "Throws IndexOutOfBoundsException if there is no such room" */
    static void promise8_refusesNoSuchRoom() {
        for (int had = 1; had <= 5; had++) {
            int rings = had;
            for (int room : Houses.outside(Houses.ROOMS[rings])) {
                for (int what = 0; what <= 5; what++) {
                    int asked = what;
                    Houses.dueRefused("about(" + room + ", " + what + ")", Houses.INDEX,
                            () -> Houses.mixed(rings), h -> h.about(room, asked));
                }
            }
        }
    }

    /** "Throws IndexOutOfBoundsException if .. what is not 0 to 5" */
    static void promise8_refusesWhatNot0To5() {
        for (int room : new int[] {0, 1, 18, 19, -1}) {
            for (int what : Houses.outside(6)) {
                Houses.dueRefused("about(" + room + ", " + what + ")", Houses.INDEX,
                        () -> Houses.mixed(2), h -> h.about(room, what));
            }
        }
    }

    // ---- promise 9

    /** "by them one comes from a place .. to .., in this order": six sides, numbered from 0. */
    static void promise9_goesBySixSidesInTheirOrder() {
        HexRooms house = new HexRooms();
        int[] due = {8, 9, 10, 3, 0, 1};
        for (int side = 0; side < 6; side++) {
            Checks.due("beside(0, " + side + ")", house.beside(0, side), 1 + side);
            Checks.due("beside(2, " + side + ")", house.beside(2, side), due[side]);
        }
    }

    /** "-1 for none": of each room of each house, by each side. */
    static void promise9_answersNoneBeyondTheRim() {
        for (int rings = 1; rings <= 5; rings++) {
            for (int side = 0; side < 6; side++) {
                HexRooms house = Houses.empty(rings);
                for (int room = 0; room < Houses.ROOMS[rings]; room++) {
                    Checks.due("beside(" + room + ", " + side + ") in " + rings,
                            house.beside(room, side), Houses.BESIDE[rings][room][side]);
                }
            }
        }
    }

    /** "A side 3 more, or 3 less, leads back." */
    static void promise9_leadsBackByASide3MoreOrLess() {
        HexRooms house = new HexRooms();
        for (int room = 0; room < 19; room++) {
            for (int side = 0; side < 6; side++) {
                int next = house.beside(room, side);
                if (next != -1) {
                    int back = side < 3 ? side + 3 : side - 3;
                    Checks.due("back from beside(" + room + ", " + side + ")",
                            house.beside(next, back), room);
                }
            }
        }
    }

    /** "a room with each step": behind a ring's last room comes its first one, by the side 1. */
    static void promise9_comesRoundFromTheLastRoomToTheFirst() {
        HexRooms house = Houses.empty(5);
        for (int ring = 1; ring <= 5; ring++) {
            int last = Houses.LAST[ring];
            int first = Houses.FIRST[ring];
            Checks.due("beside(" + last + ", 1)", house.beside(last, 1), first);
            Checks.due("beside(" + first + ", 4)", house.beside(first, 4), last);
            Checks.due("beside(" + first + ", 2)", house.beside(first, 2), first + 1);
        }
    }

    /** "whether one can go on or not" */
    static void promise9_answersBehindShutDoorsAndForWalls() {
        HexRooms house = Houses.with(Houses.shutAll(2), 1, 0, 1, 7);
        for (int side = 0; side < 6; side++) {
            Checks.due("beside(0, " + side + ")", house.beside(0, side), 1 + side);
        }
        Checks.due("beside(1, 0)", house.beside(1, 0), 7);
        Checks.due("beside(7, 0)", house.beside(7, 0), -1);
    }

    /** "Throws IndexOutOfBoundsException if there is no such room" */
    static void promise9_refusesNoSuchRoom() {
        for (int had = 1; had <= 5; had++) {
            int rings = had;
            for (int room : Houses.outside(Houses.ROOMS[rings])) {
                for (int side : new int[] {0, 3, 5}) {
                    Houses.dueRefused("beside(" + room + ", " + side + ")", Houses.INDEX,
                            () -> Houses.mixed(rings), h -> h.beside(room, side));
                }
            }
        }
    }

    /** "Throws IndexOutOfBoundsException if .. side is not 0 to 5": not -1, as beyond the rim. */
    static void promise9_refusesSideNot0To5() {
        for (int room : new int[] {0, 1, 7, 18, 19, -1}) {
            for (int side : Houses.outside(6)) {
                Houses.dueRefused("beside(" + room + ", " + side + ")", Houses.INDEX,
                        () -> Houses.mixed(2), h -> h.beside(room, side));
            }
        }
    }

    // ---- promise 10

    /** "Returns whether the door there is shut": from either room, and just this one. */
    static void promise10_tellsOfEachDoorFromEitherRoom() {
        for (int room = 0; room < 19; room++) {
            for (int side = 0; side < 6; side++) {
                int next = Houses.BESIDE[2][room][side];
                if (next != -1) {
                    HexRooms house = Houses.shutAll(2);
                    house.shut(room, side, false);
                    dueJustOneOpen(house, room, next);
                }
            }
        }
    }

    private static void dueJustOneOpen(HexRooms house, int one, int other) {
        for (int room = 0; room < 19; room++) {
            for (int side = 0; side < 6; side++) {
                int next = Houses.BESIDE[2][room][side];
                if (next != -1) {
                    boolean open = room == one && next == other || room == other && next == one;
                    Checks.due("isShut(" + room + ", " + side + "), open " + one + " to " + other,
                            house.isShut(room, side), !open);
                }
            }
        }
    }

    /** A wall in a room does not shut its doors. */
    static void promise10_tellsOfAnOpenDoorToAWall() {
        HexRooms house = Houses.full(1, 1);
        Checks.due("isShut(0, 0)", house.isShut(0, 0), false);
        Checks.due("isShut(1, 3)", house.isShut(1, 3), false);
    }

    /** "Throws IndexOutOfBoundsException if there is no such room" */
    static void promise10_refusesNoSuchRoom() {
        for (int had = 1; had <= 5; had++) {
            int rings = had;
            for (int room : Houses.outside(Houses.ROOMS[rings])) {
                Houses.dueRefused("isShut(" + room + ", 3)", Houses.INDEX,
                        () -> Houses.mixed(rings), h -> h.isShut(room, 3));
            }
        }
    }

    /** "Throws IndexOutOfBoundsException if .. side is not 0 to 5" */
    static void promise10_refusesSideNot0To5() {
        for (int room : new int[] {0, 1, 6}) {
            for (int side : Houses.outside(6)) {
                Houses.dueRefused("isShut(" + room + ", " + side + ")", Houses.INDEX,
                        () -> Houses.mixed(2), h -> h.isShut(room, side));
            }
        }
    }

    /** "Throws IllegalStateException if there is no room beside it" */
    static void promise10_refusesNoRoomBeside() {
        for (int had = 1; had <= 5; had++) {
            int rings = had;
            for (int has = Houses.FIRST[rings]; has <= Houses.LAST[rings]; has++) {
                int room = has;
                for (int by = 0; by < 6; by++) {
                    int side = by;
                    if (Houses.BESIDE[rings][room][side] == -1) {
                        Houses.dueRefused("isShut(" + room + ", " + side + ") in " + rings,
                                Houses.STATE, () -> Houses.mixed(rings),
                                h -> h.isShut(room, side));
                    }
                }
            }
        }
    }

    /** "If several exceptions apply, the one that is named first is thrown": no room beside is last. */
    static void promise10_refusesTheIndexFirst() {
        for (int[] is : new int[][] {{7, 6}, {7, -1}, {18, 6}, {19, 0}, {-1, 0}, {19, 6}}) {
            Houses.dueRefused("isShut(" + is[0] + ", " + is[1] + ")", Houses.INDEX,
                    () -> Houses.mixed(2), h -> h.isShut(is[0], is[1]));
        }
    }

    // ---- promise 11

    /** "half of what they differ across, .. down, and .. the sums .., each without its sign" */
    static void promise11_addsTheDifferencesWithoutTheirSigns() {
        HexRooms house = Houses.empty(5);
        int[][] due = {{61, 76, 10}, {76, 61, 10}, {66, 81, 10}, {81, 66, 10}, {71, 86, 10},
            {86, 71, 10}, {61, 66, 5}, {61, 71, 10}, {66, 71, 5}, {71, 66, 5}, {76, 66, 10},
            {0, 61, 5}, {0, 66, 5}, {0, 71, 5}, {0, 76, 5}, {0, 81, 5}, {0, 86, 5}, {90, 61, 1}};
        for (int[] is : due) {
            Checks.due("far(" + is[0] + ", " + is[1] + ")", house.far(is[0], is[1]), is[2]);
        }
    }

    /** Each two rooms of a house, each from itself 0. */
    static void promise11_tellsOfEachTwoRooms() {
        for (int rings = 1; rings <= 5; rings++) {
            for (int a = 0; a < Houses.ROOMS[rings]; a++) {
                HexRooms house = Houses.empty(rings);
                for (int b = 0; b < Houses.ROOMS[rings]; b++) {
                    Checks.due("far(" + a + ", " + b + ")", house.far(a, b),
                            Houses.farApart(a, b));
                }
                Checks.due("far(" + a + ", " + a + ")", house.far(a, a), 0);
            }
        }
    }

    /** Walls and doors make no room farther. */
    static void promise11_tellsTheSameBehindShutDoorsAndWalls() {
        HexRooms house = Houses.with(Houses.shutAll(2), 1, 0, 1, 7);
        Checks.due("far(0, 1)", house.far(0, 1), 1);
        Checks.due("far(7, 13)", house.far(7, 13), 4);
        HexRooms round = Houses.with(new HexRooms(), 1, 1);
        Checks.due("far(0, 7), by a way of 3 steps", round.far(0, 7), 2);
    }

    /** "Throws IndexOutOfBoundsException if there is no such room": the first, the second, both. */
    static void promise11_refusesNoSuchRoom() {
        for (int had = 1; had <= 5; had++) {
            int rings = had;
            for (int room : Houses.outside(Houses.ROOMS[rings])) {
                dueBothRefused("far", rings, room, (h, a, b) -> h.far(a, b));
            }
        }
    }

    private interface AskOfTwo {
        Object of(HexRooms house, int a, int b);
    }

    private static void dueBothRefused(String name, int rings, int room, AskOfTwo ask) {
        for (int[] is : new int[][] {{room, 0}, {0, room}, {room, room}}) {
            Houses.dueRefused(name + "(" + is[0] + ", " + is[1] + ") in " + rings, Houses.INDEX,
                    () -> Houses.mixed(rings), h -> ask.of(h, is[0], is[1]));
        }
    }

    // ---- promise 12

    /** "A lamp shines into its own room": whatever stands there, and behind shut doors. */
    static void promise12_seesItself() {
        for (int floor = 0; floor <= 2; floor++) {
            HexRooms house = Houses.with(Houses.shutAll(1), floor, 0, 6);
            dueSees(house, 0, 0, true);
            dueSees(house, 6, 6, true);
            dueSees(house, 0, 6, false);
        }
    }

    /** "by each side into the rooms .. one behind the other": straight on, as far as the rim. */
    static void promise12_seesStraightOnToTheRim() {
        for (int rings = 1; rings <= 5; rings++) {
            for (int a : new int[] {0, 1, 6, Houses.FIRST[rings], Houses.LAST[rings]}) {
                HexRooms house = Houses.empty(rings);
                for (int b = 0; b < Houses.ROOMS[rings]; b++) {
                    int across = Houses.PLACES[a][0] - Houses.PLACES[b][0];
                    int down = Houses.PLACES[a][1] - Houses.PLACES[b][1];
                    dueSees(house, a, b, across == 0 || down == 0 || across + down == 0);
                }
            }
        }
    }

    /** "a lamp .., in the place of what stands there": also of a wall, of a lamp, of nothing. */
    static void promise12_seesOutOfAnyFloor() {
        for (int floor = 0; floor <= 2; floor++) {
            HexRooms house = Houses.with(new HexRooms(), floor, 7);
            dueSeesJust(house, 19, 7, 7, 1, 0, 4, 13, 8, 9, 18, 17);
        }
    }

    /** "would shine": no lamp need be there, and lamps elsewhere do not matter. */
    static void promise12_seesWithoutALamp() {
        HexRooms house = Houses.with(new HexRooms(), 2, 8);
        dueSees(house, 0, 7, true);
        dueSees(house, 0, 8, false);
        dueSees(house, 8, 0, false);
    }

    /** "So one can go out of a room with a wall, but never into one." */
    static void promise12_doesNotSeeAWallNorBehindIt() {
        HexRooms house = Houses.with(new HexRooms(), 1, 1, 4);
        dueSees(house, 0, 1, false);
        dueSees(house, 0, 7, false);
        dueSees(house, 7, 1, false);
        dueSees(house, 7, 0, false);
        dueSees(house, 1, 0, true);
        dueSees(house, 1, 4, false);
        dueSees(house, 1, 13, false);
        dueSees(house, 4, 13, true);
        dueSees(house, 4, 1, false);
    }

    /** "the door between them is open" */
    static void promise12_doesNotSeeThroughAShutDoor() {
        HexRooms house = new HexRooms();
        house.shut(1, 0, true);
        dueSees(house, 0, 1, true);
        dueSees(house, 0, 7, false);
        dueSees(house, 1, 7, false);
        dueSees(house, 7, 1, false);
        dueSees(house, 7, 13, false);
        dueSees(house, 13, 1, true);
        house.shut(7, 3, false);
        dueSees(house, 13, 7, true);
    }

    /** "(through rooms with lamps as well)" */
    static void promise12_seesThroughLamps() {
        HexRooms house = Houses.full(2, 2);
        dueSees(house, 7, 13, true);
        dueSees(house, 9, 15, true);
        dueSees(house, 11, 17, true);
        dueSees(house, 7, 11, false);
    }

    /** "Throws IndexOutOfBoundsException if there is no such room": the first, the second, both. */
    static void promise12_refusesNoSuchRoom() {
        for (int had = 1; had <= 5; had++) {
            int rings = had;
            for (int room : Houses.outside(Houses.ROOMS[rings])) {
                dueBothRefused("sees", rings, room, (h, a, b) -> h.sees(a, b));
            }
        }
    }
}
