import java.math.BigInteger;
import java.util.HashSet;
import java.util.Set;

/** Promises 19 to 23 at their edges: a test for each sentence that names one. */
public final class WouldBoundariesTest {
    public static void main(String[] args) {
        Checks.runTests(WouldBoundariesTest.class, 19, 23);
    }

    private static int roomsOf(int ring) {
        return ring == 0 ? 1 : 6 * ring;
    }

    /** A lamp in the room 1, and the door from there into the middle shut. */
    private static HexRooms lampBehindADoor() {
        HexRooms house = Houses.with(Houses.empty(1), 2, 1);
        house.shut(1, 3, true);
        return house;
    }

    private static int litAfterTurn(HexRooms house, int ring, int by) {
        house.turn(ring, by);
        return house.count(5);
    }

    // ---- promise 19

    /** "how many rooms would be lit then": for each number of places, from 0 to 1 less than all. */
    static void promise19_takesByFrom0To1LessThanItsRooms() {
        for (int rings = 1; rings <= 5; rings++) {
            for (int ring = 0; ring <= rings; ring++) {
                HexRooms house = Houses.mixed(rings);
                for (int by = 0; by < roomsOf(ring); by++) {
                    Checks.due("would(" + ring + ", " + by + ") of " + rings,
                            house.would(ring, by), litAfterTurn(Houses.mixed(rings), ring, by));
                }
            }
        }
    }

    /** "how many rooms would be lit then": with its light behind shut doors, worked out by hand. */
    static void promise19_answersWhatWouldBeLit() {
        HexRooms house = lampBehindADoor();
        int[] due = {3, 5, 5, 4, 5, 5};
        for (int by = 0; by < due.length; by++) {
            Checks.due("would(1, " + by + ")", house.would(1, by), due[by]);
        }
        Checks.due("would(0, 0)", house.would(0, 0), 3);
        Checks.due("would(1, 5) without lamps", Houses.full(1, 1).would(1, 5), 0);
        Checks.due("would(1, 5) with lamps", Houses.full(1, 2).would(1, 5), 7);
    }

    /** "(nothing is changed)" */
    static void promise19_changesNothing() {
        for (int of = 0; of <= 5; of++) {
            int ring = of;
            for (int by : new int[] {0, roomsOf(ring) / 2, roomsOf(ring) - 1}) {
                int due = litAfterTurn(Houses.mixed(5), ring, by);
                Houses.dueAsked("would(" + ring + ", " + by + ")", due, () -> Houses.mixed(5),
                        h -> h.would(ring, by));
            }
        }
    }

    /** "Throws IndexOutOfBoundsException if there is no such ring" */
    static void promise19_refusesNoSuchRing() {
        for (int had = 1; had <= 5; had++) {
            int rings = had;
            for (int ring : Houses.outside(rings + 1)) {
                Houses.dueRefused("would(" + ring + ", 0) in " + rings, Houses.INDEX,
                        () -> Houses.mixed(rings), h -> h.would(ring, 0));
            }
        }
    }

    /** "Throws IllegalArgumentException if by is not 0 to 1 less than its rooms" */
    static void promise19_refusesByOfItsRoomsAndMore() {
        for (int of = 0; of <= 5; of++) {
            int ring = of;
            for (int by : Houses.outside(roomsOf(ring))) {
                Houses.dueRefused("would(" + ring + ", " + by + ")", Houses.ARGUMENT,
                        () -> Houses.mixed(5), h -> h.would(ring, by));
            }
        }
        Houses.dueRefused("would(2, 12) in 2", Houses.ARGUMENT, () -> Houses.mixed(2),
                h -> h.would(2, 12));
    }

    /** "If several exceptions apply, the one that is named first is thrown" */
    static void promise19_refusesTheRingFirst() {
        for (int[] is : new int[][] {{3, 18}, {3, -1}, {-1, -1}, {-1, 1}, {6, Houses.MAX}}) {
            Houses.dueRefused("would(" + is[0] + ", " + is[1] + ")", Houses.INDEX,
                    () -> Houses.mixed(2), h -> h.would(is[0], is[1]));
        }
    }

    // ---- promise 20

    /** "of several the fewest": 0 where each turn lights as many, and always of the ring 0. */
    static void promise20_is0WhereAllAreTheSame() {
        for (int rings = 1; rings <= 5; rings++) {
            for (int ring = 0; ring <= rings; ring++) {
                String call = "advise(" + ring + ") of " + rings;
                Checks.due(call + ", empty", Houses.empty(rings).advise(ring), 0);
                Checks.due(call + ", walls", Houses.full(rings, 1).advise(ring), 0);
                Checks.due(call + ", lamps", Houses.full(rings, 2).advise(ring), 0);
            }
            Checks.due("advise(0) of " + rings, Houses.mixed(rings).advise(0), 0);
        }
    }

    /** "of several the fewest": by 2, 3, 4 and 5 places five rooms are lit, by 0 and 1 four. */
    static void promise20_isTheFewestOfSeveral() {
        HexRooms house = Houses.with(Houses.empty(1), 2, 1);
        house.shut(1, 2, true);
        int[] lit = {4, 4, 5, 5, 5, 5};
        for (int by = 0; by < lit.length; by++) {
            Checks.due("would(1, " + by + ")", house.would(1, by), lit[by]);
        }
        Checks.due("advise(1)", house.advise(1), 2);
        Checks.due("advise(1), 1 with 2 and 6 alone", lampBehindADoor().advise(1), 1);
    }

    /** "from 0 to 1 less than its rooms": just the last place has a door that is open. */
    static void promise20_isUpTo1LessThanItsRooms() {
        for (int ring = 1; ring <= 5; ring++) {
            HexRooms house = Houses.with(Houses.shutAll(5), 2, Houses.FIRST[ring]);
            house.shut(Houses.LAST[ring], 2, false);
            Checks.due("advise(" + ring + ")", house.advise(ring), 6 * ring - 1);
            Checks.due("turn as advised", house.turn(ring, 6 * ring - 1), 2);
            Checks.due("advise(" + ring + "), turned", house.advise(ring), 0);
            Checks.due("turn on by 1", house.turn(ring, 1), 1);
            Checks.due("advise(" + ring + "), turned on", house.advise(ring), 6 * ring - 1);
        }
    }

    /** "so that the most rooms are lit": as many as by any other turn, more than by fewer places. */
    static void promise20_lightsTheMostRooms() {
        for (int rings = 1; rings <= 5; rings++) {
            for (int ring = 0; ring <= rings; ring++) {
                int due = 0;
                HexRooms house = Houses.mixed(rings);
                for (int by = 1; by < roomsOf(ring); by++) {
                    due = house.would(ring, by) > house.would(ring, due) ? by : due;
                }
                Checks.due("advise(" + ring + ") of " + rings, house.advise(ring), due);
            }
        }
    }

    /** "(nothing is changed)" */
    static void promise20_changesNothing() {
        Houses.dueAsked("advise(1)", 1, WouldBoundariesTest::lampBehindADoor, h -> h.advise(1));
        for (int of = 0; of <= 5; of++) {
            int ring = of;
            int due = Houses.mixed(5).advise(ring);
            Houses.dueAsked("advise(" + ring + ")", due, () -> Houses.mixed(5),
                    h -> h.advise(ring));
        }
    }

    /** "Throws IndexOutOfBoundsException if there is no such ring" */
    static void promise20_refusesNoSuchRing() {
        for (int had = 1; had <= 5; had++) {
            int rings = had;
            for (int ring : Houses.outside(rings + 1)) {
                Houses.dueRefused("advise(" + ring + ") in " + rings, Houses.INDEX,
                        () -> Houses.mixed(rings), h -> h.advise(ring));
            }
        }
    }

    // ---- promise 21

    /** "-1 if there is no such room": walls and lamps stand in all of them. */
    static void promise21_isNoneWithoutARoomInWhichNothingStands() {
        for (int rings = 1; rings <= 5; rings++) {
            HexRooms house = Houses.full(rings, 1);
            Checks.due("best(), walls", house.best(), -1);
            Checks.due("best(), lamps", Houses.full(rings, 2).best(), -1);
            house.put(0, 2);
            Checks.due("best(), walls and a lamp", house.best(), -1);
            house.put(0, 0);
            Checks.due("best(), 0 is left", house.best(), 0);
            house.put(0, 1);
            house.put(Houses.LAST[rings], 0);
            Checks.due("best(), the last is left", house.best(), Houses.LAST[rings]);
        }
    }

    /** "of several the smallest number": behind shut doors each lamp lights one room. */
    static void promise21_isTheSmallestNumberOfSeveral() {
        HexRooms house = Houses.shutAll(2);
        for (int room = 0; room < 19; room++) {
            Checks.due("best() of " + room + " to 18", house.best(), room);
            house.put(room, room % 2 + 1);
        }
        Checks.due("best(), none is left", house.best(), -1);
    }

    /** "also if no more are lit by it": the smallest one in which nothing stands, lit or not. */
    static void promise21_isAlsoARoomThatLightsNoMore() {
        HexRooms house = Houses.with(Houses.empty(1), 2, 0);
        Checks.due("count(5)", house.count(5), 7);
        Checks.due("best(), 1 to 6 are left", house.best(), 1);
        Houses.with(house, 2, 1, 2, 3);
        Checks.due("best(), 4 to 6 are left", house.best(), 4);
        Houses.with(house, 1, 4, 5);
        Checks.due("best(), 6 is left", house.best(), 6);
    }

    /** "would make the most rooms lit": a greater number that lights more, and no lit room again. */
    static void promise21_isTheRoomThatLightsTheMost() {
        for (int last = 0; last < 19; last++) {
            HexRooms house = Houses.shutAll(2);
            for (int room = 0; room < 19; room++) {
                house.put(room, room == last ? 0 : 2);
            }
            house.put(0, 0);
            Checks.due("best(), " + last + " and 0 are dark", house.best(), 0);
            house.put(0, last == 0 ? 0 : 2);
            Checks.due("best(), " + last + " is dark", house.best(), last);
        }
        HexRooms house = Houses.with(new HexRooms(), 1, 0);
        Checks.due("best(), 8 lights nine", house.best(), 8);
        house.put(8, 2);
        Checks.due("best() with a lamp in 8, 14 lights seven more", house.best(), 14);
    }

    /** "one more lamp would make the most rooms lit": as when it is put there, room by room. */
    static void promise21_lightsAsWhenALampIsPutThere() {
        for (int rings = 1; rings <= 5; rings++) {
            Checks.due("best() of " + rings, Houses.mixed(rings).best(), mostLitByPutting(rings));
        }
    }

    private static int mostLitByPutting(int rings) {
        int chosen = -1;
        int most = -1;
        for (int room = 0; room < Houses.ROOMS[rings]; room++) {
            HexRooms house = Houses.mixed(rings);
            boolean nothing = house.put(room, 2) == 0;
            if (nothing && house.count(5) > most) {
                most = house.count(5);
                chosen = room;
            }
        }
        return chosen;
    }

    /** "in which nothing stands": not one with a wall or a lamp, though it would light more. */
    static void promise21_isNoRoomWithAWallOrALamp() {
        for (int floor = 1; floor <= 2; floor++) {
            HexRooms house = Houses.with(Houses.shutAll(1), floor, 0);
            house.shut(0, 0, false);
            Checks.due("best(), " + floor + " in 0", house.best(), floor == 1 ? 1 : 2);
        }
    }

    /** "(nothing is changed)" */
    static void promise21_changesNothing() {
        Houses.dueAsked("best()", 0, () -> Houses.empty(5), HexRooms::best);
        Houses.dueAsked("best()", -1, () -> Houses.full(2, 1), HexRooms::best);
        int due = Houses.mixed(5).best();
        Houses.dueAsked("best()", due, () -> Houses.mixed(5), HexRooms::best);
    }

    // ---- promise 22

    /** "0 without any": no lamp was ever there, or none is any more. */
    static void promise22_is0WithoutARoomThatIsLit() {
        for (int rings = 1; rings <= 5; rings++) {
            HexRooms house = Houses.empty(rings);
            Checks.due("mean(), empty", house.mean(), 0.0);
            house.put(0, 2);
            Checks.due("mean(), a lamp", house.mean(), 1.0);
            house.put(0, 1);
            Checks.due("mean(), a wall", house.mean(), 0.0);
            Checks.due("mean(), all walls", Houses.full(rings, 1).mean(), 0.0);
        }
    }

    /** "how many lamps shine into a room that is lit": dark rooms are none of those. */
    static void promise22_isOfLitRoomsAlone() {
        HexRooms house = Houses.with(Houses.shutAll(5), 2, 0, 90);
        Checks.due("mean(), two shut in", house.mean(), 1.0);
        house.put(1, 2);
        house.shut(0, 0, false);
        Checks.due("mean(), two lamps in two rooms", house.mean(), 5.0 / 3);
    }

    /** "the mean": a half, a third, a seventh are told as they are. */
    static void promise22_isNoWholeNumber() {
        Checks.due("mean(), all lamps", Houses.full(1, 2).mean(), 37.0 / 7);
        HexRooms house = lampBehindADoor();
        house.put(2, 2);
        Checks.due("mean(), 1 and 2 with 3, 0, 5, 6", house.mean(), 8.0 / 6);
        for (int rings = 2; rings <= 5; rings++) {
            Checks.due("mean(), all lamps of " + rings, Houses.full(rings, 2).mean(),
                    (double) pairsInLine(rings) / Houses.ROOMS[rings]);
        }
    }

    private static int pairsInLine(int rings) {
        int pairs = 0;
        for (int a = 0; a < Houses.ROOMS[rings]; a++) {
            for (int b = 0; b < Houses.ROOMS[rings]; b++) {
                int across = Houses.PLACES[a][0] - Houses.PLACES[b][0];
                int down = Houses.PLACES[a][1] - Houses.PLACES[b][1];
                pairs += across == 0 || down == 0 || across + down == 0 ? 1 : 0;
            }
        }
        return pairs;
    }

    // ---- promise 23

    /** d * 31 + x without end, then what of it is left in 64 bits. */
    private static long wrapped(int... numbers) {
        BigInteger d = BigInteger.valueOf(1733);
        for (int x : numbers) {
            d = d.multiply(BigInteger.valueOf(31)).add(BigInteger.valueOf(x));
        }
        return d.longValue();
    }

    /** "which wraps around as a 64-bit integer"; "(all in their order)": each number by hand. */
    static void promise23_wrapsAroundAsA64BitInteger() {
        HexRooms house = Houses.with(Houses.with(Houses.empty(1), 2, 1), 1, 3);
        house.shut(0, 4, true);
        long due = wrapped(
                7, 1, 1, 1, 1, 5, 1,
                0, 0, 0, 0, 1, 4, 0, 0, 0, 0, 1, 0,
                1, 0, 1, 2, 1, 3, 0, 0, 0, 0, 0, 0,
                0, 1, 1, 0, 1, 2, 0, 0, 0, 0, 0, 0,
                -1, 1, 1, 1, 0, 3, 0, 0, 0, 0, 0, 0,
                -1, 0, 1, 0, 1, 2, 0, 0, 0, 0, 0, 0,
                0, -1, 1, 0, 0, 2, 0, 1, 0, 0, 0, 0,
                1, -1, 1, 0, 1, 3, 0, 0, 0, 0, 0, 0,
                1, 0, 0, 1,
                6, 1, 1, 4);
        Checks.due("digest()", house.digest(), due);
        Checks.due("digest() again", house.digest(), due);
    }

    /** "1 if there is a door, and it is shut, else 0": 0 where there is no door at the rim. */
    static void promise23_has0WhereThereIsNoDoor() {
        HexRooms house = Houses.shutAll(1);
        Checks.due("digest()", house.digest(), wrapped(
                7, 1, 0, 0, 12, 0, 7,
                0, 0, 0, 0, 0, 0, 1, 1, 1, 1, 1, 1,
                1, 0, 1, 0, 0, 0, 0, 0, 1, 1, 1, 0,
                0, 1, 1, 0, 0, 0, 0, 0, 0, 1, 1, 1,
                -1, 1, 1, 0, 0, 0, 1, 0, 0, 0, 1, 1,
                -1, 0, 1, 0, 0, 0, 1, 1, 0, 0, 0, 1,
                0, -1, 1, 0, 0, 0, 1, 1, 1, 0, 0, 0,
                1, -1, 1, 0, 0, 0, 0, 1, 1, 1, 0, 0,
                1, 0, 0, 0,
                6, 0, 0, 0));
        HexRooms smaller = Houses.shutAll(2);
        smaller.setRings(1);
        Checks.due("digest() of a smaller house", smaller.digest(), Houses.empty(1).digest());
    }

    /** "what count() tells, .. for each room what about() tells, .. for each ring": of each house. */
    static void promise23_isOfAllRoomsAndRings() {
        for (int rings = 1; rings <= 5; rings++) {
            Checks.due("digest() of " + rings, Houses.mixed(rings).digest(), wrapped(told(rings)));
        }
    }

    private static int tellOfRoom(HexRooms house, int rings, int room, int[] told, int from) {
        int end = from;
        for (int what = 0; what <= 5; what++) {
            told[end++] = house.about(room, what);
        }
        for (int side = 0; side <= 5; side++) {
            boolean door = Houses.BESIDE[rings][room][side] != -1;
            told[end++] = door && house.isShut(room, side) ? 1 : 0;
        }
        return end;
    }

    /** Told by one house a room: of all its rooms a large one is asked more than 512 times. */
    private static int[] told(int rings) {
        int[] told = new int[7 + 12 * Houses.ROOMS[rings] + 4 * (rings + 1)];
        HexRooms house = Houses.mixed(rings);
        int end = 0;
        for (int what = 0; what <= 6; what++) {
            told[end++] = house.count(what);
        }
        for (int room = 0; room < Houses.ROOMS[rings]; room++) {
            end = tellOfRoom(Houses.mixed(rings), rings, room, told, end);
        }
        for (int ring = 0; ring <= rings; ring++) {
            for (int what = 0; what <= 3; what++) {
                told[end++] = house.ring(ring, what);
            }
        }
        return told;
    }

    /** A checksum of what stands where, and of the doors: each alone makes it another one. */
    static void promise23_tellsHousesApart() {
        Set<Long> seen = new HashSet<>();
        int houses = 0;
        for (int rings = 1; rings <= 5; rings++) {
            seen.add(Houses.empty(rings).digest());
            houses++;
            for (int room = 0; room < Houses.ROOMS[rings]; room++) {
                seen.add(Houses.with(Houses.empty(rings), 1, room).digest());
                seen.add(Houses.with(Houses.empty(rings), 2, room).digest());
                houses += 2;
                for (int side = 0; side < 3; side++) {
                    if (Houses.BESIDE[rings][room][side] != -1) {
                        HexRooms house = Houses.empty(rings);
                        house.shut(room, side, true);
                        seen.add(house.digest());
                        houses++;
                    }
                }
            }
        }
        Checks.due("digests of houses that differ", seen.size(), houses);
    }
}
