import java.util.ArrayList;
import java.util.Arrays;
import java.util.List;
import java.util.NoSuchElementException;
import java.util.TreeSet;

/**
 * Many runs of calls, each answer held against a second program that says the document's terms
 * as plainly as it can: rooms are cells, areas are counted, and every trial looks at the whole plan.
 */
public final class ModelTest {
    private static final int RUNS = 1500;
    private static final int CALLS = 90;
    private static final int LONG_RUNS = 60;
    /** As many as the document lets an object be used for. */
    private static final int MOST_CALLS = 512;
    private static final String[] NAMES = {"piece", "turn", "limit", "rank", "share", "solve", "exact", "steps",
        "bound", "at", "over", "support", "bears", "cell", "close", "box", "count"};

    /** A run's numbers depend on its seed alone, so that a run that fails can be run again. */
    private static final class Dice {
        private long state;

        Dice(long seed) {
            state = seed * 0x9E3779B97F4A7C15L + 1;
        }

        int roll(int from, int to) {
            state = state * 6364136223846793005L + 1442695040888963407L;
            return from + (int) ((state >>> 33) % (to - from + 1));
        }
    }

    private record Place(int piece, int way, int x, int y, int z, int w, int d, int h) {
        int volume() {
            return w * d * h;
        }
    }

    private static final class Model {
        final int[] box;
        final List<int[]> sides = new ArrayList<>();
        final List<Integer> weight = new ArrayList<>();
        final List<Integer> marks = new ArrayList<>();
        final List<Integer> limit = new ArrayList<>();
        final List<Integer> rank = new ArrayList<>();
        final List<Integer> packed = new ArrayList<>();
        List<Place> plan = new ArrayList<>();
        List<Place> best;
        int share = 0;
        int closed = 0;
        int left = 0;
        int steps = 0;
        boolean exact = false;
        boolean ended;

        Model(int w, int d, int h) {
            box = new int[] {clamp(w), clamp(d), clamp(h)};
        }

        private static int clamp(int side) {
            return side < 1 ? 1 : side > 8 ? 8 : side;
        }

        private void there(int p) {
            if (p < 0 || p >= sides.size()) {
                throw new NoSuchElementException();
            }
        }

        private static void within(int value, int from, int to) {
            if (value < from || value > to) {
                throw new IllegalArgumentException();
            }
        }

        private static void asItIs(boolean holds) {
            if (!holds) {
                throw new IllegalStateException();
            }
        }

        long call(String name, int[] a) {
            switch (name) {
                case "piece": return piece(a);
                case "turn":
                    there(a[0]); within(a[1], 0, 3); marks.set(a[0], a[1]);
                    return ways(a[0]).size();
                case "limit": there(a[0]); within(a[1], -1, 1000); limit.set(a[0], a[1]); return 0;
                case "rank":
                    there(a[0]); within(a[1], 0, 9); rank.set(a[0], a[1]);
                    return order().indexOf(a[0]);
                case "share": within(a[0], 0, 100); share = a[0]; return 0;
                case "solve": return solve(a[0]);
                case "exact": return exact ? 1 : 0;
                case "steps": return steps;
                case "bound": return bound();
                case "at": return at(a[0], a[1]);
                case "over":
                    there(a[0]); there(a[1]);
                    asItIs(a[0] != a[1] && placeOf(plan, a[0]) != null && placeOf(plan, a[1]) != null);
                    return common(placeOf(plan, a[0]), placeOf(plan, a[1])) > 0 ? 1 : 0;
                case "support": return support(a[0]);
                case "bears":
                    there(a[0]); asItIs(placeOf(plan, a[0]) != null);
                    return borne(plan, placeOf(plan, a[0]));
                case "cell": return cell(a);
                case "close": return close();
                case "box": there(a[0]); return packed.get(a[0]);
                default: return count(a[0]);
            }
        }

        private int piece(int[] a) {
            for (int i = 0; i < 3; i++) {
                within(a[i], 1, 8);
            }
            within(a[3], 0, 100);
            if (sides.size() == 6) {
                throw new UnsupportedOperationException();
            }
            sides.add(new int[] {a[0], a[1], a[2]});
            weight.add(a[3]);
            marks.add(0);
            limit.add(-1);
            rank.add(0);
            packed.add(-1);
            return sides.size() - 1;
        }

        private int[] standing(int p, int way) {
            int w = sides.get(p)[0];
            int d = sides.get(p)[1];
            int h = sides.get(p)[2];
            int[][] all = {{w, d, h}, {d, w, h}, {w, h, d}, {h, w, d}, {d, h, w}, {h, d, w}};
            return all[way];
        }

        private List<Integer> ways(int p) {
            int[][] let = {{0}, {0, 1}, {0, 2, 4}, {0, 1, 2, 3, 4, 5}};
            List<Integer> ways = new ArrayList<>();
            List<String> seen = new ArrayList<>();
            for (int way : let[marks.get(p)]) {
                String look = Arrays.toString(standing(p, way));
                if (!seen.contains(look)) {
                    seen.add(look);
                    ways.add(way);
                }
            }
            return ways;
        }

        private List<Integer> order() {
            List<Integer> order = new ArrayList<>();
            for (int p = 0; p < sides.size(); p++) {
                if (packed.get(p) == -1) {
                    order.add(p);
                }
            }
            order.sort((one, two) -> rank.get(one) - rank.get(two));
            return order;
        }

        private int solve(int steps) {
            within(steps, 0, 3000);
            left = steps;
            ended = false;
            best = null;
            search(order(), 0, new ArrayList<>());
            this.steps = steps - left;
            exact = !ended;
            plan = best == null ? new ArrayList<>() : best;
            return volume(plan);
        }

        private void search(List<Integer> order, int index, List<Place> soFar) {
            if (index == order.size()) {
                if (best == null || volume(soFar) > volume(best)) {
                    best = new ArrayList<>(soFar);
                }
                return;
            }
            for (Place trial : trials(order.get(index), soFar)) {
                if (left == 0) {
                    ended = true;
                    return;
                }
                left--;
                List<Place> with = new ArrayList<>(soFar);
                with.add(trial);
                if (isPlan(with)) {
                    search(order, index + 1, with);
                    if (ended) {
                        return;
                    }
                }
            }
            search(order, index + 1, soFar);
        }

        private List<Place> trials(int p, List<Place> soFar) {
            TreeSet<Integer> xs = new TreeSet<>(List.of(0));
            TreeSet<Integer> ys = new TreeSet<>(List.of(0));
            TreeSet<Integer> zs = new TreeSet<>(List.of(0));
            for (Place s : soFar) {
                xs.add(s.x + s.w);
                ys.add(s.y + s.d);
                zs.add(s.z + s.h);
            }
            List<Place> trials = new ArrayList<>();
            for (int way : ways(p)) {
                int[] s = standing(p, way);
                for (int z : zs) {
                    for (int y : ys) {
                        for (int x : xs) {
                            trials.add(new Place(p, way, x, y, z, s[0], s[1], s[2]));
                        }
                    }
                }
            }
            return trials;
        }

        private boolean isPlan(List<Place> places) {
            int[] owner = new int[16 * 16 * 16];
            for (Place s : places) {
                if (s.x + s.w > box[0] || s.y + s.d > box[1] || s.z + s.h > box[2]) {
                    return false;
                }
                for (int x = s.x; x < s.x + s.w; x++) {
                    for (int y = s.y; y < s.y + s.d; y++) {
                        for (int z = s.z; z < s.z + s.h; z++) {
                            if (owner[(x * 16 + y) * 16 + z]++ > 0) {
                                return false;
                            }
                        }
                    }
                }
            }
            for (Place s : places) {
                if (supported(places, s) * 100 < share * s.w * s.d) {
                    return false;
                }
                int most = limit.get(s.piece);
                if (most != -1 && borne(places, s) > most) {
                    return false;
                }
            }
            return true;
        }

        private static int common(Place one, Place two) {
            int cells = 0;
            for (int x = one.x; x < one.x + one.w; x++) {
                for (int y = one.y; y < one.y + one.d; y++) {
                    if (x >= two.x && x < two.x + two.w && y >= two.y && y < two.y + two.d) {
                        cells++;
                    }
                }
            }
            return cells;
        }

        private static boolean stands(Place upper, Place lower) {
            return upper.z == lower.z + lower.h && common(upper, lower) > 0;
        }

        private static int supported(List<Place> places, Place s) {
            if (s.z == 0) {
                return s.w * s.d;
            }
            int sum = 0;
            for (Place lower : places) {
                sum += stands(s, lower) ? common(s, lower) : 0;
            }
            return sum;
        }

        private int borne(List<Place> places, Place s) {
            TreeSet<Integer> above = new TreeSet<>();
            gather(places, s, above);
            int sum = 0;
            for (int p : above) {
                sum += weight.get(p);
            }
            return sum;
        }

        private static void gather(List<Place> places, Place s, TreeSet<Integer> above) {
            for (Place upper : places) {
                if (stands(upper, s)) {
                    above.add(upper.piece);
                    gather(places, upper, above);
                }
            }
        }

        private static int volume(List<Place> places) {
            int sum = 0;
            for (Place s : places) {
                sum += s.volume();
            }
            return sum;
        }

        private static Place placeOf(List<Place> places, int p) {
            for (Place s : places) {
                if (s.piece == p) {
                    return s;
                }
            }
            return null;
        }

        private int bound() {
            int sum = 0;
            for (int p : order()) {
                boolean fits = false;
                for (int way : ways(p)) {
                    int[] s = standing(p, way);
                    fits |= s[0] <= box[0] && s[1] <= box[1] && s[2] <= box[2];
                }
                sum += fits ? sides.get(p)[0] * sides.get(p)[1] * sides.get(p)[2] : 0;
            }
            int whole = box[0] * box[1] * box[2];
            return sum < whole ? sum : whole;
        }

        private int at(int p, int what) {
            there(p);
            within(what, 0, 6);
            Place s = placeOf(plan, p);
            return s == null ? -1 : new int[] {s.x, s.y, s.z, s.w, s.d, s.h, s.way}[what];
        }

        private int support(int p) {
            there(p);
            Place s = placeOf(plan, p);
            if (s == null) {
                throw new ArithmeticException();
            }
            return 100 * supported(plan, s) / (s.w * s.d);
        }

        private int cell(int[] a) {
            for (int i = 0; i < 3; i++) {
                if (a[i] < 0 || a[i] >= box[i]) {
                    throw new ArrayIndexOutOfBoundsException();
                }
            }
            for (Place s : plan) {
                boolean inside = a[0] >= s.x && a[0] < s.x + s.w && a[1] >= s.y && a[1] < s.y + s.d
                        && a[2] >= s.z && a[2] < s.z + s.h;
                if (inside) {
                    return s.piece;
                }
            }
            return -1;
        }

        private int close() {
            asItIs(!plan.isEmpty());
            for (Place s : plan) {
                packed.set(s.piece, closed);
            }
            plan = new ArrayList<>();
            return closed++;
        }

        private int count(int what) {
            int heavy = 0;
            int top = 0;
            for (Place s : plan) {
                heavy += weight.get(s.piece);
                top = Math.max(top, s.z + s.h);
            }
            int[] counts = {sides.size(), plan.size(), order().size(), closed, volume(plan), heavy, top};
            return what < 0 || what >= counts.length ? -1 : counts[what];
        }
    }

    private static long callProgram(PackingSearch x, String name, int[] a) {
        switch (name) {
            case "piece": return x.piece(a[0], a[1], a[2], a[3]);
            case "turn": return x.turn(a[0], a[1]);
            case "limit": x.limit(a[0], a[1]); return 0;
            case "rank": return x.rank(a[0], a[1]);
            case "share": x.share(a[0]); return 0;
            case "solve": return x.solve(a[0]);
            case "exact": return x.exact() ? 1 : 0;
            case "steps": return x.steps();
            case "bound": return x.bound();
            case "at": return x.at(a[0], a[1]);
            case "over": return x.over(a[0], a[1]) ? 1 : 0;
            case "support": return x.support(a[0]);
            case "bears": return x.bears(a[0]);
            case "cell": return x.cell(a[0], a[1], a[2]);
            case "close": return x.close();
            case "box": return x.box(a[0]);
            default: return x.count(a[0]);
        }
    }

    private static int[] arguments(String name, Dice dice, int side) {
        int piece = dice.roll(0, 19) == 0 ? dice.roll(-1, 7) : dice.roll(0, 5);
        boolean odd = dice.roll(0, 19) == 0;
        switch (name) {
            case "piece":
                return new int[] {dice.roll(odd ? 0 : 1, odd ? 9 : side), dice.roll(odd ? 0 : 1, odd ? 9 : side),
                    dice.roll(odd ? 0 : 1, odd ? 9 : side), dice.roll(odd ? -1 : 0, odd ? 101 : 20)};
            case "turn": return new int[] {piece, odd ? dice.roll(-1, 4) : dice.roll(0, 3)};
            case "limit": return new int[] {piece, odd ? dice.roll(998, 1002) : dice.roll(-2, 30)};
            case "rank": return new int[] {piece, odd ? dice.roll(-1, 10) : dice.roll(0, 3)};
            case "share": return new int[] {odd ? dice.roll(-1, 101) : dice.roll(0, 4) * 25};
            case "solve": return new int[] {odd ? dice.roll(-1, 3001) : dice.roll(0, 2) == 0 ? dice.roll(0, 200) : 2000};
            case "at": return new int[] {piece, dice.roll(odd ? -1 : 0, odd ? 7 : 6)};
            case "cell": return new int[] {dice.roll(-1, side + 1), dice.roll(-1, side + 1), dice.roll(-1, side + 1)};
            case "count": return new int[] {dice.roll(odd ? -1 : 0, odd ? 7 : 6)};
            case "over": return new int[] {piece, dice.roll(0, 9) == 0 ? piece : dice.roll(0, 5)};
            case "support":
            case "bears":
            case "box": return new int[] {piece};
            default: return new int[0];
        }
    }

    private interface Answer {
        long get();
    }

    private static String say(Answer answer) {
        try {
            return Long.toString(answer.get());
        } catch (RuntimeException e) {
            return e.getClass().getName();
        }
    }

    private static String pick(Dice dice, int call) {
        int kind = call < 4 ? 0 : dice.roll(0, 29);
        return kind < NAMES.length ? NAMES[kind] : kind < 22 ? "support" : kind < 26 ? "bears" : "solve";
    }

    /** A long run would have all its pieces packed too early if it closed a box as often as a short one. */
    private static String pickRarelyClosing(Dice dice, int call) {
        String name = pick(dice, call);
        return name.equals("close") && dice.roll(0, 11) > 0 ? "over" : name;
    }

    private static boolean runIsAsDue(int run, int calls) {
        Dice dice = new Dice(run);
        int side = run % 3 == 0 ? 8 : 4;
        int[] box = {dice.roll(0, side + 1), dice.roll(0, side + 1), dice.roll(0, side + 1)};
        PackingSearch program = new PackingSearch(box[0], box[1], box[2]);
        Model model = new Model(box[0], box[1], box[2]);
        for (int i = 0; i < calls; i++) {
            String name = calls == CALLS ? pick(dice, i) : pickRarelyClosing(dice, i);
            int[] a = arguments(name, dice, side);
            String want = say(() -> model.call(name, a));
            String got = say(() -> callProgram(program, name, a));
            if (!want.equals(got)) {
                System.out.println("run " + run + ", call " + i + ": " + name + Arrays.toString(a)
                        + " answered " + got + ", due is " + want);
                return false;
            }
        }
        return true;
    }

    public static void main(String[] args) {
        int wrong = 0;
        for (int run = 1; run <= RUNS; run++) {
            wrong += runIsAsDue(run, CALLS) ? 0 : 1;
        }
        for (int run = RUNS + 1; run <= RUNS + LONG_RUNS; run++) {
            wrong += runIsAsDue(run, MOST_CALLS) ? 0 : 1;
        }
        System.out.println(wrong == 0 ? "all " + (RUNS + LONG_RUNS) + " runs are as due" : wrong + " runs are not as due");
        if (wrong != 0) {
            System.exit(1);
        }
    }
}
