import java.util.ArrayList;
import java.util.Collections;
import java.util.HashMap;
import java.util.HashSet;
import java.util.List;
import java.util.Map;
import java.util.Random;
import java.util.Set;

/** Random runs of calls, each answered by HexRooms as by a model written from the document alone. */
public final class ModelTest {
    private static final int RUNS = 600;
    private static final int CALLS = 512;
    private static final int[] ODD = {-1, -2, 99, 100, 1000, Integer.MIN_VALUE, Integer.MAX_VALUE};

    public static void main(String[] args) {
        for (int seed = 0; seed < RUNS; seed++) {
            new Run(seed).go();
        }
        Checks.end();
    }

    /** A place by its two numbers. */
    private record Place(int across, int down) {
        Place by(int side) {
            switch (side) {
                case 0: return new Place(across + 1, down);
                case 1: return new Place(across, down + 1);
                case 2: return new Place(across - 1, down + 1);
                case 3: return new Place(across - 1, down);
                case 4: return new Place(across, down - 1);
                default: return new Place(across + 1, down - 1);
            }
        }
    }

    /** The house by lists and sets, everything found anew at each call. */
    private static final class Model {
        List<Place> places;
        Map<Place, Integer> numbers;
        /** What stands in the rooms, ring by ring. */
        List<List<Integer>> floors;
        Set<Set<Integer>> shut;

        Model() {
            build(2);
        }

        int build(int rings) {
            places = new ArrayList<>();
            floors = new ArrayList<>();
            shut = new HashSet<>();
            places.add(new Place(0, 0));
            floors.add(new ArrayList<>(List.of(0)));
            for (int k = 1; k <= rings; k++) {
                Place p = new Place(k, 0);
                floors.add(new ArrayList<>(Collections.nCopies(6 * k, 0)));
                for (int side : new int[] {2, 3, 4, 5, 0, 1}) {
                    for (int i = 0; i < k; i++) {
                        places.add(p);
                        p = p.by(side);
                    }
                }
            }
            numbers = new HashMap<>();
            for (Place p : places) {
                numbers.put(p, numbers.size());
            }
            return places.size();
        }

        List<Integer> all() {
            List<Integer> all = new ArrayList<>();
            floors.forEach(all::addAll);
            return all;
        }

        int ringOf(int room) {
            int ring = 0;
            for (int left = room; left >= floors.get(ring).size(); ring++) {
                left -= floors.get(ring).size();
            }
            return ring;
        }

        int firstOf(int ring) {
            int first = 0;
            for (int k = 0; k < ring; k++) {
                first += floors.get(k).size();
            }
            return first;
        }

        int at(int across, int down) {
            return numbers.getOrDefault(new Place(across, down), -1);
        }

        int beside(int room, int side) {
            return numbers.getOrDefault(places.get(room).by(side), -1);
        }

        boolean isShut(int room, int side) {
            return shut.contains(Set.of(room, beside(room, side)));
        }

        boolean goes(List<Integer> all, int room, int side) {
            int next = beside(room, side);
            return next >= 0 && !isShut(room, side) && all.get(next) != 1;
        }

        Set<Integer> shinesInto(List<Integer> all, int lamp) {
            Set<Integer> into = new HashSet<>();
            into.add(lamp);
            for (int side = 0; side < 6; side++) {
                for (int room = lamp; goes(all, room, side); ) {
                    room = beside(room, side);
                    into.add(room);
                }
            }
            return into;
        }

        int[] shining() {
            List<Integer> all = all();
            int[] lamps = new int[all.size()];
            for (int room = 0; room < all.size(); room++) {
                if (all.get(room) == 2) {
                    shinesInto(all, room).forEach(into -> lamps[into]++);
                }
            }
            return lamps;
        }

        int lit() {
            int lit = 0;
            for (int lamps : shining()) {
                lit += lamps > 0 ? 1 : 0;
            }
            return lit;
        }

        int turned(int ring, int by) {
            if (ring > 0) {
                Collections.rotate(floors.get(ring), by);
            }
            return lit();
        }

        int turnedAll(int by) {
            for (int k = 0; k < floors.size(); k++) {
                turned(k, k * by);
            }
            return lit();
        }

        int would(int ring, int by) {
            int lit = turned(ring, by);
            turned(ring, -by);
            return lit;
        }

        /** Steps from each room to the one, by making them smaller until none gets smaller. */
        int[] waysTo(int b) {
            List<Integer> all = all();
            int far = 1000;
            int[] steps = new int[all.size()];
            java.util.Arrays.fill(steps, far);
            steps[b] = 0;
            for (boolean again = true; again; ) {
                again = false;
                for (int room = all.size() - 1; room >= 0; room--) {
                    for (int side = 0; side < 6; side++) {
                        if (goes(all, room, side) && steps[beside(room, side)] + 1 < steps[room]) {
                            steps[room] = steps[beside(room, side)] + 1;
                            again = true;
                        }
                    }
                }
            }
            for (int room = 0; room < steps.length; room++) {
                steps[room] = steps[room] == far ? -1 : steps[room];
            }
            return steps;
        }

        int side(int a, int b) {
            int[] steps = waysTo(b);
            for (int side = 0; side < 6; side++) {
                if (steps[a] > 0 && goes(all(), a, side)
                        && steps[beside(a, side)] == steps[a] - 1) {
                    return side;
                }
            }
            return -1;
        }

        int reach(int room, int most) {
            Set<Integer> in = new HashSet<>(Set.of(room));
            for (int step = 0; step < most; step++) {
                Set<Integer> more = new HashSet<>();
                for (int r : in) {
                    for (int side = 0; side < 6; side++) {
                        if (goes(all(), r, side)) {
                            more.add(beside(r, side));
                        }
                    }
                }
                if (!in.addAll(more)) {
                    break;
                }
            }
            return in.size();
        }

        /** As many parts as rooms without walls, less one for each way that joins two of them. */
        int parts() {
            List<Integer> all = all();
            int[] part = new int[all.size()];
            int parts = 0;
            for (int room = 0; room < part.length; room++) {
                part[room] = room;
                parts += all.get(room) != 1 ? 1 : 0;
            }
            for (int room = 0; room < part.length; room++) {
                for (int side = 0; side < 6; side++) {
                    if (all.get(room) == 1 || !goes(all, room, side)) {
                        continue;
                    }
                    int from = part[beside(room, side)];
                    int to = part[room];
                    parts -= from != to ? 1 : 0;
                    for (int r = 0; r < part.length; r++) {
                        part[r] = part[r] == from ? to : part[r];
                    }
                }
            }
            return parts;
        }

        int about(int room, int what) {
            switch (what) {
                case 0: return places.get(room).across();
                case 1: return places.get(room).down();
                case 2: return ringOf(room);
                case 3: return all().get(room);
                case 4: return shining()[room];
                default:
                    int sides = 0;
                    for (int side = 0; side < 6; side++) {
                        sides += goes(all(), room, side) ? 1 : 0;
                    }
                    return sides;
            }
        }

        int ring(int ring, int what) {
            int lit = 0;
            int[] lamps = shining();
            for (int room = firstOf(ring); room < firstOf(ring + 1); room++) {
                lit += lamps[room] > 0 ? 1 : 0;
            }
            switch (what) {
                case 0: return floors.get(ring).size();
                case 1: return Collections.frequency(floors.get(ring), 1);
                case 2: return Collections.frequency(floors.get(ring), 2);
                default: return lit;
            }
        }

        int count(int what) {
            switch (what) {
                case 0: return places.size();
                case 1: return floors.size() - 1;
                case 2: return Collections.frequency(all(), 1);
                case 3: return Collections.frequency(all(), 2);
                case 4: return shut.size();
                case 5: return lit();
                default: return parts();
            }
        }

        int far(int a, int b) {
            Place p = places.get(a);
            Place q = places.get(b);
            int sums = p.across() + p.down() - q.across() - q.down();
            return (Math.abs(p.across() - q.across()) + Math.abs(p.down() - q.down())
                    + Math.abs(sums)) / 2;
        }

        int sixthsToSame() {
            List<Integer> now = all();
            int sixths = 0;
            do {
                turnedAll(1);
                sixths++;
            } while (!all().equals(now));
            turnedAll(6 - sixths);
            return sixths;
        }

        int advise(int ring) {
            int chosen = 0;
            for (int by = 1; by < floors.get(ring).size(); by++) {
                chosen = would(ring, by) > would(ring, chosen) ? by : chosen;
            }
            return chosen;
        }

        int put(int room, int floor) {
            int ring = ringOf(room);
            return floors.get(ring).set(room - firstOf(ring), floor);
        }

        int best() {
            int chosen = -1;
            int most = -1;
            for (int room = 0; room < places.size(); room++) {
                if (all().get(room) == 0) {
                    put(room, 2);
                    int lit = lit();
                    put(room, 0);
                    chosen = lit > most ? room : chosen;
                    most = Math.max(most, lit);
                }
            }
            return chosen;
        }

        double mean() {
            double sum = 0;
            for (int lamps : shining()) {
                sum += lamps;
            }
            return lit() > 0 ? sum / lit() : 0;
        }

        boolean shut(int room, int side, boolean is) {
            boolean was = isShut(room, side);
            Set<Integer> door = Set.of(room, beside(room, side));
            if (is) {
                shut.add(door);
            } else {
                shut.remove(door);
            }
            return was;
        }

        long digest() {
            List<Integer> told = new ArrayList<>();
            for (int what = 0; what < 7; what++) {
                told.add(count(what));
            }
            int[] lamps = shining();
            for (int room = 0; room < places.size(); room++) {
                for (int what = 0; what < 6; what++) {
                    told.add(what == 4 ? lamps[room] : about(room, what));
                }
                for (int side = 0; side < 6; side++) {
                    told.add(beside(room, side) >= 0 && isShut(room, side) ? 1 : 0);
                }
            }
            for (int ring = 0; ring < floors.size(); ring++) {
                for (int what = 0; what < 4; what++) {
                    told.add(ring(ring, what));
                }
            }
            long d = 1733;
            for (int x : told) {
                d = d * 31 + x;
            }
            return d;
        }
    }

    /** One run on a new object; some runs have more walls, lamps, doors or wrong calls than others. */
    private static final class Run {
        final int seed;
        final Random random;
        final HexRooms house = new HexRooms();
        final Model model = new Model();
        final int oddOnes;
        final int changes;
        final int[] mix;

        Run(int seed) {
            this.seed = seed;
            random = new Random(seed);
            oddOnes = random.nextInt(3) * 5;
            changes = 10 + random.nextInt(60);
            mix = new int[] {1 + random.nextInt(4), random.nextInt(5), random.nextInt(3)};
            setRings(1 + random.nextInt(5));
        }

        void go() {
            for (int i = 1; i < CALLS / 2; i++) {
                if (random.nextInt(100) < changes) {
                    change();
                } else {
                    ask();
                }
                if (i % 16 == 0) {
                    due("digest()", Checks.outcome(house::digest), String.valueOf(model.digest()));
                }
            }
        }

        void due(String call, String got, String want) {
            Checks.due("seed " + seed + ": " + call, got, want);
        }

        int number(int end) {
            if (random.nextInt(100) < oddOnes) {
                return random.nextBoolean() ? end : ODD[random.nextInt(ODD.length)];
            }
            return random.nextInt(end);
        }

        int room() {
            return number(model.places.size());
        }

        /** Across or down, in the house or one or two beyond it; odd ones as they are. */
        int place() {
            int rings = model.floors.size() - 1;
            int number = number(2 * rings + 5);
            return isIn(number, 2 * rings + 5) ? number - rings - 2 : number;
        }

        int ringNumber() {
            return number(model.floors.size());
        }

        int floor() {
            if (random.nextInt(100) < oddOnes) {
                return number(3);
            }
            int of = random.nextInt(mix[0] + mix[1] + mix[2]);
            return of < mix[0] ? 0 : of < mix[0] + mix[1] ? 1 : 2;
        }

        static boolean isIn(int number, int end) {
            return number >= 0 && number < end;
        }

        /** What is due: an index fault, else another fault by its name, else the model's answer. */
        static String want(boolean indexes, String fault, Checks.Call call) {
            if (!indexes) {
                return "throws.IndexOutOfBoundsException";
            }
            return fault.isEmpty() ? String.valueOf(call.answer()) : "throws." + fault;
        }

        static String argument(boolean right) {
            return right ? "" : "IllegalArgumentException";
        }

        boolean hasRoom(int room) {
            return isIn(room, model.places.size());
        }

        boolean hasRing(int ring) {
            return isIn(ring, model.floors.size());
        }

        String door(int room, int side) {
            boolean door = hasRoom(room) && isIn(side, 6) && model.beside(room, side) >= 0;
            return door ? "" : "IllegalStateException";
        }

        void setRings(int rings) {
            due("setRings(" + rings + ")", Checks.outcome(() -> house.setRings(rings)),
                    want(true, argument(rings >= 1 && rings <= 5), () -> model.build(rings)));
        }

        void change() {
            int by;
            int room = room();
            switch (random.nextInt(40)) {
                case 0:
                    if (random.nextInt(4) == 0) {
                        setRings(number(7));
                    }
                    break;
                case 1: case 2: case 3:
                    by = number(30);
                    int ring = ringNumber();
                    due("turn(" + ring + ", " + by + ")",
                            Checks.outcome(() -> house.turn(ring, by)),
                            want(hasRing(ring), argument(isIn(by, 30)),
                                    () -> model.turned(ring, by)));
                    break;
                case 4: case 5:
                    by = number(6);
                    due("turnAll(" + by + ")", Checks.outcome(() -> house.turnAll(by)),
                            want(true, argument(isIn(by, 6)), () -> model.turnedAll(by)));
                    break;
                case 6: case 7: case 8: case 9: case 10: case 11: case 12: case 13:
                    int side = number(6);
                    boolean is = random.nextInt(4) > 0;
                    due("shut(" + room + ", " + side + ", " + is + ")",
                            Checks.outcome(() -> house.shut(room, side, is)),
                            want(hasRoom(room) && isIn(side, 6), door(room, side),
                                    () -> model.shut(room, side, is)));
                    break;
                default:
                    int floor = floor();
                    due("put(" + room + ", " + floor + ")",
                            Checks.outcome(() -> house.put(room, floor)),
                            want(hasRoom(room) && isIn(floor, 3), "",
                                    () -> model.put(room, floor)));
            }
        }

        void ask() {
            int a = room();
            int b = room();
            boolean both = hasRoom(a) && hasRoom(b);
            switch (random.nextInt(16)) {
                case 0:
                    int across = place();
                    int down = place();
                    due("at(" + across + ", " + down + ")",
                            Checks.outcome(() -> house.at(across, down)),
                            want(true, "", () -> model.at(across, down)));
                    break;
                case 1:
                    int fact = number(6);
                    due("about(" + a + ", " + fact + ")",
                            Checks.outcome(() -> house.about(a, fact)),
                            want(hasRoom(a) && isIn(fact, 6), "", () -> model.about(a, fact)));
                    break;
                case 2:
                    int side = number(6);
                    due("beside(" + a + ", " + side + ")",
                            Checks.outcome(() -> house.beside(a, side)),
                            want(hasRoom(a) && isIn(side, 6), "", () -> model.beside(a, side)));
                    break;
                case 3:
                    int by = number(6);
                    due("isShut(" + a + ", " + by + ")", Checks.outcome(() -> house.isShut(a, by)),
                            want(hasRoom(a) && isIn(by, 6), door(a, by),
                                    () -> model.isShut(a, by)));
                    break;
                case 4:
                    due("far(" + a + ", " + b + ")", Checks.outcome(() -> house.far(a, b)),
                            want(both, "", () -> model.far(a, b)));
                    break;
                case 5:
                    due("sees(" + a + ", " + b + ")", Checks.outcome(() -> house.sees(a, b)),
                            want(both, "", () -> model.shinesInto(model.all(), a).contains(b)));
                    break;
                case 6:
                    due("way(" + a + ", " + b + ")", Checks.outcome(() -> house.way(a, b)),
                            want(both, "", () -> model.waysTo(b)[a]));
                    break;
                case 7:
                    due("side(" + a + ", " + b + ")", Checks.outcome(() -> house.side(a, b)),
                            want(both, "", () -> model.side(a, b)));
                    break;
                case 8:
                    int steps = random.nextInt(4) == 0 ? number(100) : number(8);
                    due("reach(" + a + ", " + steps + ")",
                            Checks.outcome(() -> house.reach(a, steps)),
                            want(hasRoom(a), argument(isIn(steps, 100)),
                                    () -> model.reach(a, steps)));
                    break;
                case 9:
                    askOfHouse();
                    break;
                default:
                    askWhatWouldBe();
            }
        }

        void askOfHouse() {
            int ring = ringNumber();
            int what = number(4);
            int fact = number(7);
            due("ring(" + ring + ", " + what + ")", Checks.outcome(() -> house.ring(ring, what)),
                    want(hasRing(ring) && isIn(what, 4), "", () -> model.ring(ring, what)));
            due("count(" + fact + ")", Checks.outcome(() -> house.count(fact)),
                    want(isIn(fact, 7), "", () -> model.count(fact)));
        }

        void askWhatWouldBe() {
            int ring = ringNumber();
            switch (random.nextInt(5)) {
                case 0:
                    due("sixthsToSame()", Checks.outcome(house::sixthsToSame),
                            want(true, "", model::sixthsToSame));
                    break;
                case 1:
                    int places = hasRing(ring) ? model.floors.get(ring).size() : 1;
                    int by = number(places);
                    due("would(" + ring + ", " + by + ")",
                            Checks.outcome(() -> house.would(ring, by)),
                            want(hasRing(ring), argument(isIn(by, places)),
                                    () -> model.would(ring, by)));
                    break;
                case 2:
                    int advised = hasRing(ring) && ring > 3 && random.nextInt(4) > 0 ? 1 : ring;
                    due("advise(" + advised + ")", Checks.outcome(() -> house.advise(advised)),
                            want(hasRing(advised), "", () -> model.advise(advised)));
                    break;
                case 3:
                    due("best()", Checks.outcome(house::best), want(true, "", model::best));
                    break;
                default:
                    due("mean()", Checks.outcome(house::mean), want(true, "", model::mean));
            }
        }
    }
}
