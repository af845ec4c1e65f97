/** Promises 16 to 18 at their edges: a test for each sentence that names one. */
public final class RingsBoundariesTest {
    public static void main(String[] args) {
        Checks.runTests(RingsBoundariesTest.class, 16, 18);
    }

    private static void dueRing(HexRooms house, int ring, int... due) {
        for (int what = 0; what < due.length; what++) {
            Checks.due("ring(" + ring + ", " + what + ")", house.ring(ring, what), due[what]);
        }
    }

    private static void dueCount(String when, HexRooms house, int what, int due) {
        Checks.due("count(" + what + "), " + when, house.count(what), due);
    }

    private static void dueSixths(String when, HexRooms house, int due) {
        Checks.due("sixthsToSame(), " + when, house.sixthsToSame(), due);
    }

    // ---- promise 16

    /** "it is the ring 0"; "the ring k has 6 * k rooms" */
    static void promise16_has1RoomInTheRing0And6TimesKInTheOthers() {
        for (int rings = 1; rings <= 5; rings++) {
            HexRooms house = Houses.empty(rings);
            dueRing(house, 0, 1, 0, 0, 0);
            for (int ring = 1; ring <= rings; ring++) {
                dueRing(house, ring, 6 * ring, 0, 0, 0);
            }
        }
    }

    /** "1 walls in it, 2 lamps in it, 3 its rooms that are lit": in all of its rooms. */
    static void promise16_isFullOfWallsOrLamps() {
        for (int rings = 1; rings <= 5; rings++) {
            HexRooms walls = Houses.full(rings, 1);
            HexRooms lamps = Houses.full(rings, 2);
            dueRing(walls, 0, 1, 1, 0, 0);
            dueRing(lamps, 0, 1, 0, 1, 1);
            for (int ring = 1; ring <= rings; ring++) {
                dueRing(walls, ring, 6 * ring, 6 * ring, 0, 0);
                dueRing(lamps, ring, 6 * ring, 0, 6 * ring, 6 * ring);
            }
        }
    }

    /** "at the places 0 to 6 * k - 1": both are counted, and none of the rings beside it. */
    static void promise16_countsFromItsFirstRoomToItsLast() {
        for (int ring = 1; ring <= 4; ring++) {
            HexRooms house = Houses.shutAll(5);
            Houses.with(house, 1, Houses.FIRST[ring]);
            Houses.with(house, 2, Houses.LAST[ring]);
            dueRing(house, ring - 1, Houses.LAST[ring - 1] - Houses.FIRST[ring - 1] + 1, 0, 0, 0);
            dueRing(house, ring, 6 * ring, 1, 1, 1);
            dueRing(house, ring + 1, 6 * ring + 6, 0, 0, 0);
        }
    }

    /** "A room is lit, if some lamp shines into it": also one lamp of another ring, or many. */
    static void promise16_countsRoomsThatAreLitOnce() {
        HexRooms house = Houses.with(Houses.empty(5), 2, 0);
        dueRing(house, 0, 1, 0, 1, 1);
        for (int ring = 1; ring <= 5; ring++) {
            dueRing(house, ring, 6 * ring, 0, 0, 6);
        }
        Houses.with(house, 2, 61, 76);
        dueRing(house, 1, 6, 0, 0, 6);
        house.put(0, 1);
        dueRing(house, 0, 1, 1, 0, 0);
        dueRing(house, 1, 6, 0, 0, 2);
    }

    /** "Throws IndexOutOfBoundsException if there is no such ring" */
    static void promise16_refusesNoSuchRing() {
        for (int had = 1; had <= 5; had++) {
            int rings = had;
            for (int ring : Houses.outside(rings + 1)) {
                for (int what = 0; what <= 3; what++) {
                    int asked = what;
                    Houses.dueRefused("ring(" + ring + ", " + what + ") in " + rings,
                            Houses.INDEX, () -> Houses.mixed(rings), h -> h.ring(ring, asked));
                }
            }
        }
    }

    /** "Throws IndexOutOfBoundsException if .. what is not 0 to 3" */
    static void promise16_refusesWhatNot0To3() {
        for (int ring : new int[] {0, 1, 2, 3, -1}) {
            Houses.dueRefused("ring(" + ring + ", 4)", Houses.INDEX, () -> Houses.mixed(2),
                    h -> h.ring(ring, 4));
            for (int what : Houses.outside(4)) {
                Houses.dueRefused("ring(" + ring + ", " + what + ")", Houses.INDEX,
                        () -> Houses.mixed(2), h -> h.ring(ring, what));
            }
        }
    }

    // ---- promise 17

    /** "0 rooms, 1 rings but the ring 0" */
    static void promise17_countsRingsButTheRing0() {
        for (int rings = 1; rings <= 5; rings++) {
            HexRooms house = Houses.mixed(rings);
            dueCount("of " + rings, house, 0, Houses.ROOMS[rings]);
            dueCount("of " + rings, house, 1, rings);
        }
    }

    /** "2 walls, 3 lamps": none, in the first room, in the last, in all. */
    static void promise17_countsWallsAndLamps() {
        for (int rings = 1; rings <= 5; rings++) {
            for (int floor = 1; floor <= 2; floor++) {
                HexRooms house = Houses.empty(rings);
                dueCount("none", house, 1 + floor, 0);
                house.put(0, floor);
                dueCount("first", house, 1 + floor, 1);
                house.put(Houses.LAST[rings], floor);
                dueCount("first and last", house, 1 + floor, 2);
                dueCount("others", house, 4 - floor, 0);
                dueCount("all", Houses.full(rings, floor), 1 + floor, Houses.ROOMS[rings]);
            }
        }
    }

    /** "4 doors that are shut": each is one door of two rooms; none, and all of them. */
    static void promise17_countsEachDoorOnce() {
        for (int rings = 1; rings <= 5; rings++) {
            dueCount("none of " + rings, Houses.empty(rings), 4, 0);
            dueCount("all of " + rings, Houses.shutAll(rings), 4, Houses.DOORS[rings]);
        }
        HexRooms house = new HexRooms();
        for (int side = 0; side < 6; side++) {
            house.shut(0, side, true);
            house.shut(1 + side, (side + 3) % 6, true);
            dueCount("by the sides to " + side, house, 4, 1 + side);
        }
    }

    /** "5 rooms that are lit": none without a lamp, one in a shut room, all of them; each once. */
    static void promise17_countsRoomsThatAreLit() {
        for (int rings = 1; rings <= 5; rings++) {
            int last = Houses.LAST[rings];
            dueCount("no lamp", Houses.full(rings, 1), 5, 0);
            dueCount("shut in", Houses.with(Houses.shutAll(rings), 2, 0), 5, 1);
            dueCount("two shut in", Houses.with(Houses.shutAll(rings), 2, 0, last), 5, 2);
            dueCount("in the middle", Houses.with(Houses.empty(rings), 2, 0), 5, 1 + 6 * rings);
            dueCount("in the first room of the last ring",
                    Houses.with(Houses.empty(rings), 2, Houses.FIRST[rings]), 5, 1 + 4 * rings);
            dueCount("all", Houses.full(rings, 2), 5, Houses.ROOMS[rings]);
        }
    }

    /** "6 parts: of rooms without walls": one in an open house, none where all are walls. */
    static void promise17_hasNoPartOfWalls() {
        for (int rings = 1; rings <= 5; rings++) {
            HexRooms house = Houses.full(rings, 1);
            dueCount("all walls", house, 6, 0);
            dueCount("open", Houses.empty(rings), 6, 1);
            dueCount("all lamps", Houses.full(rings, 2), 6, 1);
            house.put(0, 2);
            dueCount("all walls but 0", house, 6, 1);
            house.put(Houses.LAST[rings], 0);
            dueCount("all walls but 0 and the last", house, 6, rings == 1 ? 1 : 2);
        }
    }

    /** "between which there are ways": behind shut doors each room is a part, to the last one. */
    static void promise17_hasAPartForEachRoomShutIn() {
        for (int rings = 1; rings <= 5; rings++) {
            HexRooms house = Houses.shutAll(rings);
            dueCount("all shut in", house, 6, Houses.ROOMS[rings]);
            house.put(0, 1);
            dueCount("a wall shut in", house, 6, Houses.ROOMS[rings] - 1);
        }
    }

    /** "between which there are ways": of any length, and cut by one door or one wall. */
    static void promise17_hasOnePartOfTheLongestWay() {
        HexRooms house = Houses.snakeHouse();
        dueCount("the longest way", house, 6, 1);
        house.shut(7, 0, true);
        dueCount("cut by a door", house, 6, 2);
        house.put(4, 1);
        dueCount("cut by a wall", house, 6, 3);
        house.put(90, 1);
        dueCount("a wall in the end", house, 6, 3);
    }

    /** "of rooms without walls": that one can go out of a wall into two parts joins neither. */
    static void promise17_joinsNoPartsByAWall() {
        HexRooms house = Houses.with(new HexRooms(), 1, 1, 8, 18);
        dueCount("7 behind 1, 8 and 18", house, 6, 2);
        HexRooms middle = Houses.with(Houses.empty(1), 1, 0, 2, 4, 6);
        dueCount("1, 3 and 5 around a wall", middle, 6, 3);
        middle.put(0, 2);
        dueCount("1, 3 and 5 around a lamp", middle, 6, 1);
    }

    /** "Throws IndexOutOfBoundsException if what is not 0 to 6" */
    static void promise17_refusesWhatNot0To6() {
        for (int had = 1; had <= 5; had++) {
            int rings = had;
            for (int what : Houses.outside(7)) {
                Houses.dueRefused("count(" + what + ")", Houses.INDEX, () -> Houses.mixed(rings),
                        h -> h.count(what));
            }
        }
    }

    // ---- promise 18

    /** "the least number of sixths, 1 to 6": never 0, also where nothing stands, or all the same. */
    static void promise18_is1AtLeast() {
        for (int rings = 1; rings <= 5; rings++) {
            dueSixths("empty", Houses.empty(rings), 1);
            dueSixths("all walls", Houses.full(rings, 1), 1);
            dueSixths("all lamps", Houses.full(rings, 2), 1);
            dueSixths("the middle", Houses.with(Houses.full(rings, 1), 2, 0), 1);
        }
        int[] corners = {61, 66, 71, 76, 81, 86};
        dueSixths("six corners", Houses.with(Houses.empty(5), 1, corners), 1);
        dueSixths("each second", Houses.with(new HexRooms(), 2, 8, 10, 12, 14, 16, 18), 1);
    }

    /** "1 to 6": in each ring one thing alone is there again only once round. */
    static void promise18_is6AtMost() {
        for (int rings = 1; rings <= 5; rings++) {
            for (int ring = 1; ring <= rings; ring++) {
                dueSixths("first of " + ring,
                        Houses.with(Houses.empty(rings), 2, Houses.FIRST[ring]), 6);
                dueSixths("last of " + ring,
                        Houses.with(Houses.empty(rings), 1, Houses.LAST[ring]), 6);
                dueSixths("all but the last of " + ring,
                        Houses.with(Houses.full(rings, 2), 0, Houses.LAST[ring]), 6);
            }
            dueSixths("mixed", Houses.mixed(rings), 6);
        }
    }

    /** "the least number": of three times the same 2, of twice the same 3. */
    static void promise18_is2Or3() {
        for (int k = 1; k <= 5; k++) {
            int last = Houses.LAST[k];
            int[] three = {last - 4 * k, last - 2 * k, last};
            int[] two = {last - 3 * k, last};
            dueSixths("thrice in " + k, Houses.with(Houses.empty(5), 1, three), 2);
            dueSixths("twice in " + k, Houses.with(Houses.empty(5), 2, two), 3);
        }
    }

    /** "all rings": thrice the same in one and twice in another are there again once round. */
    static void promise18_isOfAllRings() {
        HexRooms house = Houses.with(new HexRooms(), 2, 1, 3, 5);
        dueSixths("thrice in 1", house, 2);
        Houses.with(house, 1, 7, 13);
        dueSixths("and twice in 2", house, 6);
        Houses.with(house, 1, 9, 11, 15, 17);
        dueSixths("and six times in 2", house, 2);
    }

    /** "what stands there now": a lamp is not a wall. */
    static void promise18_tellsLampsFromWalls() {
        HexRooms house = Houses.with(Houses.full(1, 1), 2, 2, 4, 6);
        dueSixths("walls and lamps in turn", house, 2);
        house.put(6, 1);
        dueSixths("but one", house, 6);
    }

    /** "(doors do not matter)" */
    static void promise18_isTheSameWithAnyDoorsShut() {
        HexRooms house = new HexRooms();
        house.shut(7, 3, true);
        house.shut(0, 2, true);
        dueSixths("two doors shut", house, 1);
        Houses.with(house, 2, 1, 3, 5);
        dueSixths("two doors shut, three lamps", house, 2);
        dueSixths("all doors shut", Houses.with(Houses.shutAll(2), 1, 7, 13), 3);
    }

    /** "could be turned": it is not. */
    static void promise18_turnsNothing() {
        Houses.dueAsked("sixthsToSame()", 6, () -> Houses.mixed(5), HexRooms::sixthsToSame);
        Houses.dueAsked("sixthsToSame()", 3, () -> Houses.with(new HexRooms(), 1, 7, 13),
                HexRooms::sixthsToSame);
    }
}
