import java.util.Arrays;

/** Promises 1 to 6 at their edges: a test for each sentence that names one. */
public final class HouseBoundariesTest {
    public static void main(String[] args) {
        Checks.runTests(HouseBoundariesTest.class, 1, 6);
    }

    private static void dueFloors(String when, HexRooms house, int[] due) {
        Checks.due("what stands, " + when, Arrays.toString(Houses.floors(house)),
                Arrays.toString(due));
    }

    private static void dueNoDoorShut(String when, HexRooms house, int rings) {
        Checks.due("count(4), " + when, house.count(4), 0);
        for (int room = 0; room < Houses.ROOMS[rings]; room++) {
            for (int side = 0; side < 3; side++) {
                int next = Houses.BESIDE[rings][room][side];
                if (next != -1) {
                    String door = room + ", " + side + "), " + when;
                    Checks.due("isShut(" + door, house.isShut(room, side), false);
                }
            }
        }
    }

    /** The floors of a house when a ring's last place has come to its place 0, so many times. */
    private static int[] turned(int[] floors, int ring, int by) {
        int[] now = floors.clone();
        for (int i = 0; i < by; i++) {
            int last = now[Houses.LAST[ring]];
            for (int room = Houses.LAST[ring]; room > Houses.FIRST[ring]; room--) {
                now[room] = now[room - 1];
            }
            now[Houses.FIRST[ring]] = last;
        }
        return now;
    }

    // ---- promise 1

    /** "Creates a house of 2 rings": it has the second one, and no third. */
    static void promise1_has2Rings() {
        HexRooms house = new HexRooms();
        Checks.due("count(0)", house.count(0), 19);
        Checks.due("count(1)", house.count(1), 2);
        Checks.due("ring(2, 0)", house.ring(2, 0), 12);
        Checks.due("about(18, 2)", house.about(18, 2), 2);
        Checks.due("at(3, 0)", house.at(3, 0), -1);
        Houses.dueRefused("ring(3, 0)", Houses.INDEX, HexRooms::new, h -> h.ring(3, 0));
        Houses.dueRefused("about(19, 2)", Houses.INDEX, HexRooms::new, h -> h.about(19, 2));
    }

    /** "with nothing in its rooms"; "0 nothing (at first)" */
    static void promise1_hasNothingInItsRooms() {
        HexRooms house = new HexRooms();
        dueFloors("new", house, new int[19]);
        Checks.due("count(2)", house.count(2), 0);
        Checks.due("count(3)", house.count(3), 0);
        Checks.due("count(5)", house.count(5), 0);
        for (int room = 0; room < 19; room++) {
            Checks.due("about(" + room + ", 4)", house.about(room, 4), 0);
        }
    }

    /** "Between two rooms that are beside each other is a door, open (at first) or shut." */
    static void promise1_hasAllDoorsOpen() {
        dueNoDoorShut("new", new HexRooms(), 2);
    }

    /** "Creates a house": its own, not one that another object has too. */
    static void promise1_isApartFromOtherObjects() {
        HexRooms first = new HexRooms();
        HexRooms second = new HexRooms();
        String due = Houses.portrait(new HexRooms());
        first.setRings(5);
        first.put(0, 2);
        first.shut(0, 0, true);
        Houses.with(first, 1, 1, 18, 90);
        Checks.due("the second house", Houses.portrait(second), due);
        Checks.due("a third house", Houses.portrait(new HexRooms()), due);
    }

    /** "An object is used for at most 512 calls": the last of them is answered as the first. */
    static void promise1_answersThe512thCall() {
        Houses.Ask[] asks = {
            h -> h.setRings(3), h -> h.put(18, 0), h -> h.shut(0, 3, true), h -> h.turn(2, 29),
            h -> h.turnAll(5), h -> h.at(2, -1), h -> h.about(0, 4), h -> h.beside(18, 1),
            h -> h.isShut(0, 3), h -> h.far(7, 13), h -> h.sees(0, 8), h -> h.way(7, 13),
            h -> h.side(7, 13), h -> h.reach(0, 99), h -> h.ring(2, 3), h -> h.count(6),
            HexRooms::sixthsToSame, h -> h.would(2, 11), h -> h.advise(2), HexRooms::best,
            HexRooms::mean, HexRooms::digest,
        };
        for (int i = 0; i < asks.length; i++) {
            Houses.Ask ask = asks[i];
            HexRooms used = usedFor511Calls();
            HexRooms fresh = new HexRooms();
            putAll(fresh);
            Checks.due("ask " + i, Checks.outcome(() -> ask.of(used)),
                    Checks.outcome(() -> ask.of(fresh)));
        }
    }

    private static HexRooms usedFor511Calls() {
        HexRooms house = new HexRooms();
        int calls = 0;
        while (calls < 511 - 19 - 4) {
            house.put(calls % 19, calls % 3);
            house.turn(calls % 3, calls % 30);
            house.advise(calls % 3);
            house.digest();
            calls += 4;
        }
        for (; calls < 511 - 19; calls++) {
            house.best();
        }
        putAll(house);
        return house;
    }

    private static void putAll(HexRooms house) {
        for (int room = 0; room < 19; room++) {
            house.put(room, Houses.mixedFloor(room));
        }
    }

    // ---- promise 2

    /** "There are rings from 1 to at most 5"; "Returns how many rooms it has." */
    static void promise2_takes1To5() {
        for (int rings = 1; rings <= 5; rings++) {
            HexRooms house = new HexRooms();
            Checks.due("setRings(" + rings + ")", house.setRings(rings), Houses.ROOMS[rings]);
            Checks.due("count(0)", house.count(0), Houses.ROOMS[rings]);
            Checks.due("count(1)", house.count(1), rings);
            Checks.due("ring(" + rings + ", 0)", house.ring(rings, 0), 6 * rings);
            int last = Houses.LAST[rings];
            Checks.due("about(" + last + ", 2)", house.about(last, 2), rings);
        }
    }

    /** "Throws IllegalArgumentException if rings is not 1 to 5" */
    static void promise2_refusesRingsNot1To5() {
        for (int had = 1; had <= 5; had++) {
            int rings = had;
            Houses.dueRefused("setRings(0)", Houses.ARGUMENT, () -> Houses.mixed(rings),
                    h -> h.setRings(0));
            for (int wrong : Houses.outside(6)) {
                Houses.dueRefused("setRings(" + wrong + ")", Houses.ARGUMENT,
                        () -> Houses.mixed(rings), h -> h.setRings(wrong));
            }
        }
    }

    /** "Builds another house: nothing in its rooms" - of as many rings too, and back again. */
    static void promise2_hasNothingInItsRooms() {
        for (int had = 1; had <= 5; had++) {
            for (int rings = 1; rings <= 5; rings++) {
                HexRooms house = Houses.full(had, 2);
                house.setRings(rings);
                String when = "from " + had + " rings to " + rings;
                dueFloors(when, house, new int[Houses.ROOMS[rings]]);
                Checks.due("count(5), " + when, house.count(5), 0);
                Checks.due("about(0, 4), " + when, house.about(0, 4), 0);
                Checks.due("mean(), " + when, house.mean(), 0.0);
                house.setRings(5);
                dueFloors(when + " to 5", house, new int[91]);
            }
        }
    }

    /** "Builds another house: .. all doors open" - of as many rings too, and back again. */
    static void promise2_hasAllDoorsOpen() {
        for (int rings = 1; rings <= 5; rings++) {
            HexRooms same = Houses.shutAll(rings);
            same.setRings(rings);
            Checks.due("count(4), again " + rings, same.count(4), 0);
            Checks.due("isShut(1, 3), again " + rings, same.isShut(1, 3), false);
        }
        HexRooms house = Houses.shutAll(2);
        house.setRings(1);
        dueNoDoorShut("from 2 rings to 1", house, 1);
        house.setRings(2);
        dueNoDoorShut("from 1 ring to 2", house, 2);
    }

    /** "Builds another house": the rooms of the one before it are gone. */
    static void promise2_hasNoRoomOfTheHouseBefore() {
        for (int rings = 1; rings < 5; rings++) {
            HexRooms house = Houses.mixed(5);
            house.setRings(rings);
            int beyond = Houses.ROOMS[rings];
            Checks.due("at() after setRings(" + rings + ")", house.at(rings + 1, 0), -1);
            Checks.due("beside() after setRings(" + rings + ")",
                    house.beside(Houses.FIRST[rings], 0), -1);
            Checks.due("about() after setRings(" + rings + ")",
                    Checks.outcome(() -> house.about(beyond, 3)),
                    "throws.IndexOutOfBoundsException");
            Checks.due("reach() after setRings(" + rings + ")", house.reach(0, 99), beyond);
        }
    }

    // ---- promise 3

    /** "what stands in it from now on, 0 to 2"; "Returns what stood in it before." */
    static void promise3_takesEachFloorAfterEach() {
        for (int rings = 1; rings <= 5; rings++) {
            for (int room : new int[] {0, Houses.FIRST[rings], Houses.LAST[rings]}) {
                for (int before = 0; before <= 2; before++) {
                    for (int floor = 0; floor <= 2; floor++) {
                        HexRooms house = Houses.empty(rings);
                        house.put(room, before);
                        String call = "put(" + room + ", " + floor + ") on " + before;
                        Checks.due(call, house.put(room, floor), before);
                        Checks.due(call + " stands", house.about(room, 3), floor);
                        Checks.due(call + ": walls", house.count(2), floor == 1 ? 1 : 0);
                        Checks.due(call + ": lamps", house.count(3), floor == 2 ? 1 : 0);
                        Checks.due(call + ": lit", house.count(5) > 0, floor == 2);
                        Checks.due(call + " again", house.put(room, floor), floor);
                    }
                }
            }
        }
    }

    /** "what stands in it": in this room, in no other. */
    static void promise3_changesNoOtherRoom() {
        for (int room = 0; room < 19; room++) {
            for (int floor = 0; floor <= 2; floor++) {
                HexRooms house = Houses.mixed(2);
                int[] due = Houses.floors(house);
                due[room] = floor;
                house.put(room, floor);
                dueFloors("put(" + room + ", " + floor + ")", house, due);
            }
        }
    }

    /** "Throws IndexOutOfBoundsException if there is no such room" */
    static void promise3_refusesNoSuchRoom() {
        for (int had = 1; had <= 5; had++) {
            int rings = had;
            for (int room : Houses.outside(Houses.ROOMS[rings])) {
                for (int puts = 0; puts <= 2; puts++) {
                    int floor = puts;
                    Houses.dueRefused("put(" + room + ", " + floor + ")", Houses.INDEX,
                            () -> Houses.mixed(rings), h -> h.put(room, floor));
                }
            }
        }
    }

    /** "Throws IndexOutOfBoundsException if .. floor is not 0 to 2" */
    static void promise3_refusesFloorNot0To2() {
        for (int has = 0; has < 19; has++) {
            int room = has;
            for (int floor : new int[] {-1, 3, 4, Houses.MIN, Houses.MAX}) {
                Houses.dueRefused("put(" + room + ", " + floor + ")", Houses.INDEX,
                        () -> Houses.mixed(2), h -> h.put(room, floor));
            }
        }
        Houses.dueRefused("put(19, 3)", Houses.INDEX, () -> Houses.mixed(2), h -> h.put(19, 3));
        Houses.dueRefused("put(-1, -1)", Houses.INDEX, () -> Houses.mixed(2), h -> h.put(-1, -1));
    }

    // ---- promise 4

    /** "whether the door there is shut from now on (from either room)"; "Returns whether it was." */
    static void promise4_shutsFromEitherRoom() {
        for (int rings = 1; rings <= 5; rings++) {
            for (int room = 0; room < Houses.ROOMS[rings]; room++) {
                for (int side = 0; side < 6; side++) {
                    if (Houses.BESIDE[rings][room][side] != -1) {
                        dueShutFromBoth(rings, room, side);
                    }
                }
            }
        }
    }

    private static void dueShutFromBoth(int rings, int room, int side) {
        HexRooms house = Houses.empty(rings);
        int other = Houses.BESIDE[rings][room][side];
        int back = (side + 3) % 6;
        String door = "(" + room + ", " + side + ") of " + rings;
        Checks.due("shut open door " + door, house.shut(room, side, true), false);
        Checks.due("isShut" + door, house.isShut(room, side), true);
        Checks.due("isShut from behind " + door, house.isShut(other, back), true);
        Checks.due("doors shut by " + door, house.count(4), 1);
        Checks.due("shut shut door " + door, house.shut(room, side, true), true);
        Checks.due("shut shut door from behind " + door, house.shut(other, back, true), true);
        Checks.due("doors shut thrice by " + door, house.count(4), 1);
        Checks.due("open from behind " + door, house.shut(other, back, false), true);
        Checks.due("isShut, opened " + door, house.isShut(room, side), false);
        Checks.due("isShut from behind, opened " + door, house.isShut(other, back), false);
        Checks.due("open open door " + door, house.shut(room, side, false), false);
        Checks.due("doors shut in the end " + door, house.count(4), 0);
    }

    /** "A side 3 more, or 3 less, leads back": no other door than this one is shut. */
    static void promise4_shutsNoOtherDoor() {
        for (int side = 0; side < 6; side++) {
            HexRooms house = new HexRooms();
            house.shut(0, side, true);
            for (int other = 0; other < 6; other++) {
                String when = " when " + side + " is";
                Checks.due("isShut(0, " + other + ")" + when, house.isShut(0, other),
                        other == side);
                int next = 1 + side;
                if (Houses.BESIDE[2][next][other] != -1) {
                    Checks.due("isShut(" + next + ", " + other + ")" + when,
                            house.isShut(next, other), other == (side + 3) % 6);
                }
            }
        }
    }

    /** "shut from now on": at once no light and no way goes through, and again when it is open. */
    static void promise4_holdsFromNowOn() {
        HexRooms house = Houses.with(Houses.empty(1), 2, 1);
        Checks.due("count(5), open", house.count(5), 5);
        house.shut(0, 0, true);
        Checks.due("count(5), shut", house.count(5), 3);
        Checks.due("about(0, 4), shut", house.about(0, 4), 0);
        Checks.due("way(1, 0), shut", house.way(1, 0), 2);
        house.shut(1, 3, false);
        Checks.due("count(5), open again", house.count(5), 5);
        Checks.due("about(0, 4), open again", house.about(0, 4), 1);
        Checks.due("way(1, 0), open again", house.way(1, 0), 1);
    }

    /** "Between two rooms that are beside each other is a door": also where walls stand in them. */
    static void promise4_shutsBesideAWall() {
        HexRooms house = Houses.full(1, 1);
        Checks.due("shut(0, 0, true)", house.shut(0, 0, true), false);
        Checks.due("isShut(1, 3)", house.isShut(1, 3), true);
        dueFloors("walls", house, new int[] {1, 1, 1, 1, 1, 1, 1});
    }

    /** "Throws IndexOutOfBoundsException if there is no such room" */
    static void promise4_refusesNoSuchRoom() {
        for (int had = 1; had <= 5; had++) {
            int rings = had;
            for (int room : Houses.outside(Houses.ROOMS[rings])) {
                boolean is = (room & 1) == 0;
                Houses.dueRefused("shut(" + room + ", 3, " + is + ")", Houses.INDEX,
                        () -> Houses.mixed(rings), h -> h.shut(room, 3, is));
            }
        }
    }

    /** "Throws IndexOutOfBoundsException if .. side is not 0 to 5" */
    static void promise4_refusesSideNot0To5() {
        for (int has = 0; has < 19; has++) {
            int room = has;
            for (int side : new int[] {-1, 6, -3, 9, Houses.MIN, Houses.MAX}) {
                for (boolean is : new boolean[] {false, true}) {
                    Houses.dueRefused("shut(" + room + ", " + side + ", " + is + ")",
                            Houses.INDEX, () -> Houses.mixed(2), h -> h.shut(room, side, is));
                }
            }
        }
    }

    /** "Throws IllegalStateException if there is no room beside it" */
    static void promise4_refusesNoRoomBeside() {
        for (int had = 1; had <= 5; had++) {
            int rings = had;
            for (int has = Houses.FIRST[rings]; has <= Houses.LAST[rings]; has++) {
                int room = has;
                for (int by = 0; by < 6; by++) {
                    int side = by;
                    if (Houses.BESIDE[rings][room][side] == -1) {
                        boolean is = (room + side) % 3 != 0;
                        Houses.dueRefused("shut(" + room + ", " + side + ", " + is + ") in "
                                + rings, Houses.STATE, () -> Houses.mixed(rings),
                                h -> h.shut(room, side, is));
                    }
                }
            }
        }
    }

    /** "If several exceptions apply, the one that is named first is thrown": no room beside is last. */
    static void promise4_refusesTheIndexFirst() {
        int[][] both = {{7, 6}, {7, -1}, {18, 6}, {19, 0}, {-1, 0}, {19, 6}, {-1, -1}};
        for (int[] is : both) {
            Houses.dueRefused("shut(" + is[0] + ", " + is[1] + ", true)", Houses.INDEX,
                    () -> Houses.mixed(2), h -> h.shut(is[0], is[1], true));
        }
    }

    // ---- promise 5

    /** "what stands in each of its rooms comes to the room so many places on" */
    static void promise5_turnsEachRingBy0To29() {
        for (int rings = 1; rings <= 5; rings++) {
            for (int ring = 0; ring <= rings; ring++) {
                for (int by = 0; by <= 29; by++) {
                    HexRooms house = Houses.mixed(rings);
                    int[] due = turned(Houses.floors(house), ring, by);
                    house.turn(ring, by);
                    dueFloors("turn(" + ring + ", " + by + ") of " + rings, house, due);
                }
            }
        }
    }

    /** "behind the last place to the place 0 and so on" */
    static void promise5_comesFromTheLastPlaceToThePlace0() {
        for (int ring = 1; ring <= 5; ring++) {
            HexRooms house = Houses.empty(5);
            house.put(Houses.LAST[ring], 1);
            house.put(Houses.LAST[ring] - 1, 2);
            house.turn(ring, 1);
            String when = " after turn(" + ring + ", 1)";
            Checks.due("place 0" + when, house.about(Houses.FIRST[ring], 3), 1);
            Checks.due("last place" + when, house.about(Houses.LAST[ring], 3), 2);
            house.turn(ring, 1);
            Checks.due("place 1" + when + " twice", house.about(Houses.FIRST[ring] + 1, 3), 1);
            Checks.due("place 0" + when + " twice", house.about(Houses.FIRST[ring], 3), 2);
            Checks.due("walls" + when + " twice", house.count(2), 1);
            Checks.due("lamps" + when + " twice", house.count(3), 1);
        }
    }

    /** "also several times round": as often as 29 places go round the ring. */
    static void promise5_goesSeveralTimesRound() {
        for (int ring = 1; ring <= 4; ring++) {
            String due = Houses.portrait(Houses.mixed(4));
            for (int by = 6 * ring; by <= 29; by += 6 * ring) {
                HexRooms house = Houses.mixed(4);
                house.turn(ring, by);
                Checks.due("turn(" + ring + ", " + by + ")", Houses.portrait(house), due);
            }
        }
        HexRooms house = Houses.with(Houses.empty(1), 2, 1);
        house.turn(1, 29);
        dueFloors("four times round and 5", house, new int[] {0, 0, 0, 0, 0, 0, 2});
    }

    /** "the ring 0 stays as it is" */
    static void promise5_leavesTheRing0() {
        for (int floor = 0; floor <= 2; floor++) {
            for (int by = 0; by <= 29; by++) {
                HexRooms house = Houses.mixed(2);
                HexRooms due = Houses.mixed(2);
                house.put(0, floor);
                due.put(0, floor);
                Checks.due("turn(0, " + by + ")", house.turn(0, by), due.count(5));
                Checks.due("after turn(0, " + by + ")", Houses.portrait(house),
                        Houses.portrait(due));
            }
        }
    }

    /** "doors stay": each door alone, when each ring is turned. */
    static void promise5_leavesDoors() {
        for (int ring = 0; ring <= 2; ring++) {
            for (int by : new int[] {0, 1, 29}) {
                int turned = ring;
                dueSameDoors("turn(" + ring + ", " + by + ")", h -> h.turn(turned, by));
            }
        }
    }

    /** Of all the doors just the one that is shut ahead of the turn is shut after it. */
    private static void dueSameDoors(String call, Houses.Ask turn) {
        for (int room = 0; room < 19; room++) {
            for (int side = 0; side < 3; side++) {
                if (Houses.BESIDE[2][room][side] != -1) {
                    HexRooms house = Houses.with(new HexRooms(), 1, 0, 1, 8);
                    house.shut(room, side, true);
                    turn.of(house);
                    String door = "isShut(" + room + ", " + side + ") after " + call;
                    Checks.due(door, house.isShut(room, side), true);
                    Checks.due("doors but " + door, house.count(4), 1);
                }
            }
        }
    }

    /** "Returns how many rooms are lit then": then, not before, and also if nothing is moved. */
    static void promise5_returnsHowManyAreLitThen() {
        HexRooms house = Houses.with(Houses.empty(1), 2, 1);
        house.shut(1, 3, true);
        Checks.due("count(5), 1 with 2 and 6", house.count(5), 3);
        Checks.due("turn(1, 0)", house.turn(1, 0), 3);
        Checks.due("turn(0, 29)", house.turn(0, 29), 3);
        Checks.due("turn(1, 1), 2 with 1, 3, 0 and 5", house.turn(1, 1), 5);
        Checks.due("count(5)", house.count(5), 5);
        Checks.due("turn(1, 5)", house.turn(1, 5), 3);
        Checks.due("turn(1, 29), 6 with 1, 5, 0 and 3", house.turn(1, 29), 5);
        Checks.due("turn(1, 1) without lamps", Houses.full(1, 1).turn(1, 1), 0);
    }

    /** "Throws IndexOutOfBoundsException if there is no such ring" */
    static void promise5_refusesNoSuchRing() {
        for (int had = 1; had <= 5; had++) {
            int rings = had;
            for (int ring : Houses.outside(rings + 1)) {
                Houses.dueRefused("turn(" + ring + ", 1) in " + rings, Houses.INDEX,
                        () -> Houses.mixed(rings), h -> h.turn(ring, 1));
            }
        }
    }

    /** "Throws IllegalArgumentException if by is not 0 to 29": the same for each ring. */
    static void promise5_refusesByNot0To29() {
        for (int turns = 0; turns <= 5; turns++) {
            int ring = turns;
            for (int by : Houses.outside(30)) {
                Houses.dueRefused("turn(" + ring + ", " + by + ")", Houses.ARGUMENT,
                        () -> Houses.mixed(5), h -> h.turn(ring, by));
            }
        }
        Houses.dueRefused("turn(1, 30) in 1", Houses.ARGUMENT, () -> Houses.mixed(1),
                h -> h.turn(1, 30));
    }

    /** "If several exceptions apply, the one that is named first is thrown" */
    static void promise5_refusesTheRingFirst() {
        for (int[] is : new int[][] {{3, 30}, {-1, -1}, {3, -1}, {-1, 30}, {6, Houses.MAX}}) {
            Houses.dueRefused("turn(" + is[0] + ", " + is[1] + ")", Houses.INDEX,
                    () -> Houses.mixed(2), h -> h.turn(is[0], is[1]));
        }
    }

    // ---- promise 6

    /** "Turns all rings by so many sixths: the ring k by k times as many places." */
    static void promise6_turnsBy0To5Sixths() {
        for (int rings = 1; rings <= 5; rings++) {
            for (int by = 0; by <= 5; by++) {
                HexRooms house = Houses.mixed(rings);
                int[] due = Houses.floors(house);
                for (int ring = 1; ring <= rings; ring++) {
                    due = turned(due, ring, ring * by);
                }
                house.turnAll(by);
                dueFloors("turnAll(" + by + ") of " + rings, house, due);
            }
        }
    }

    /** "behind the last place to the place 0 and so on": the last corner comes to the first. */
    static void promise6_comesRoundToThePlace0() {
        HexRooms house = Houses.empty(5);
        for (int ring = 1; ring <= 5; ring++) {
            house.put(Houses.FIRST[ring] + 5 * ring, 1);
            house.put(Houses.LAST[ring], ring == 1 ? 1 : 2);
        }
        house.turnAll(1);
        for (int ring = 1; ring <= 5; ring++) {
            int first = Houses.FIRST[ring];
            Checks.due("place 0 of " + ring, house.about(first, 3), 1);
            Checks.due("place k - 1 of " + ring, house.about(first + ring - 1, 3),
                    ring == 1 ? 1 : 2);
        }
    }

    /** "doors stay": each door alone. */
    static void promise6_leavesDoors() {
        for (int by : new int[] {0, 1, 2, 3, 4, 5}) {
            dueSameDoors("turnAll(" + by + ")", h -> h.turnAll(by));
        }
    }

    /** Six sixths are once round: all is as it was. */
    static void promise6_isAsItWasOnceRound() {
        for (int rings = 1; rings <= 5; rings++) {
            for (int by = 0; by <= 5; by++) {
                HexRooms house = Houses.mixed(rings);
                house.turnAll(by);
                house.turnAll((6 - by) % 6);
                Checks.due("turnAll(" + by + ") and back, of " + rings, Houses.portrait(house),
                        Houses.portrait(Houses.mixed(rings)));
            }
        }
    }

    /** "Returns how many rooms are lit then" */
    static void promise6_returnsHowManyAreLitThen() {
        HexRooms house = Houses.with(Houses.empty(1), 2, 1);
        house.shut(1, 3, true);
        Checks.due("turnAll(0)", house.turnAll(0), 3);
        Checks.due("turnAll(1)", house.turnAll(1), 5);
        Checks.due("turnAll(5)", house.turnAll(5), 3);
        Checks.due("turnAll(3), 4 with 3, 5 and 0", house.turnAll(3), 4);
        Checks.due("count(5)", house.count(5), 4);
        Checks.due("turnAll(5) without lamps", Houses.full(5, 1).turnAll(5), 0);
    }

    /** "Throws IllegalArgumentException if by is not 0 to 5" */
    static void promise6_refusesByNot0To5() {
        for (int had = 1; had <= 5; had++) {
            int rings = had;
            for (int by : Houses.outside(6)) {
                Houses.dueRefused("turnAll(" + by + ") in " + rings, Houses.ARGUMENT,
                        () -> Houses.mixed(rings), h -> h.turnAll(by));
            }
        }
    }
}
