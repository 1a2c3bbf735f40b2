/**
 * The document's 'What it is' and 'Terms': each sentence that names a boundary has a method of its
 * own, which looks at both sides of it. The last of them, on refusals, is RefusalsTest's.
 */
public final class TermsTest extends Checks {
    private static final String[] SIDE = {"width", "depth", "height"};

    private interface Ask {
        long of(PackingSearch x);
    }

    private interface Tell {
        void to(PackingSearch x, int number);
    }

    public static void main(String[] args) {
        callsOfAnObject();
        sidesOfTheBox();
        atMostSixPieces();
        sidesOfPieces();
        weights();
        marks();
        marksAtFirst();
        limits();
        noLimit();
        ranks();
        ranksAtFirst();
        shares();
        waysAndMarks();
        waysThatAreAlike();
        inTheBox();
        noCommonRoom();
        barsThatCross();
        standsAtTheTop();
        standsWithACommonArea();
        supportAtTheBottom();
        supportIsASum();
        supportBesideTheCorner();
        supportNotLessThanTheShare();
        supportByMoreThanOne();
        bearsEachOnce();
        bearsWhateverTheNumbers();
        bearsNotMoreThanItsLimit();
        orderOfTheSearch();
        packedPiecesAreNotSearched();
        waysUpward();
        placesUpward();
        placesAtEndsAlone();
        endsOfPlacedPiecesAlone();
        eachTrialIsAStep();
        takenAwayAgain();
        leftOut();
        greaterThanTheBest();
        noStepsLeft();
        everyNumberOfSteps();
        end();
    }

    private static int[] along(int axis, int length) {
        int[] sides = {1, 1, 1, 0};
        sides[axis] = length;
        return sides;
    }

    private static PackingSearch rowAlong(int axis, int length, int... pieces) {
        int[] box = along(axis, length);
        PackingSearch x = new PackingSearch(box[0], box[1], box[2]);
        for (int side : pieces) {
            int[] p = along(axis, side);
            x.piece(p[0], p[1], p[2], p[3]);
        }
        return x;
    }

    private static PackingSearch tower(int weight, int floors) {
        PackingSearch x = new PackingSearch(1, 1, floors);
        for (int i = 0; i < floors; i++) {
            x.piece(1, 1, 1, weight);
        }
        return x;
    }

    /** Each number outside the range is refused and each in it is not, on one and the same object. */
    private static void rangeIs(String what, int from, int to, PackingSearch x, Tell tell) {
        for (int number : new int[] {MIN, from - 2, from - 1, to + 1, to + 2, MAX}) {
            refused(what + " " + number, RANGE, () -> tell.to(x, number));
        }
        for (int number = from; number <= to; number++) {
            int told = number;
            due(what + " " + number, 0, () -> {
                tell.to(x, told);
                return 0;
            });
        }
    }

    private static void callsOfAnObject() {
        sentence("An object is used for at most 512 calls after it has been made");
        lasts("solve(3000)", 6, x -> x.solve(3000));
        lasts("steps()", 3000, x -> x.steps());
        lasts("exact()", 0, x -> x.exact() ? 1 : 0);
        lasts("turn(0, 3)", 1, x -> x.turn(0, 3));
        lasts("rank(5, 0)", 5, x -> x.rank(5, 0));
        lasts("bound()", 6, x -> x.bound());
        lasts("at(5, 0)", 5, x -> x.at(5, 0));
        lasts("over(0, 5)", 0, x -> x.over(0, 5) ? 1 : 0);
        lasts("support(5)", 100, x -> x.support(5));
        lasts("bears(0)", 0, x -> x.bears(0));
        lasts("cell(5, 0, 0)", 5, x -> x.cell(5, 0, 0));
        lasts("box(5)", -1, x -> x.box(5));
        lasts("count(5)", 600, x -> x.count(5));
        PackingSearch closed = sixCells();
        closed.solve(3000);
        due("close() as call 8", 0, () -> closed.close());
        for (int call = 9; call < 512; call++) {
            refused("close() as call " + call, STATE, () -> closed.close());
        }
        due("box(5) as call 512", 0, () -> closed.box(5));
    }

    private static PackingSearch sixCells() {
        int[] cell = p(1, 1, 1, 100);
        return packing(8, 8, 8, cell, cell, cell, cell, cell, cell);
    }

    private static void lasts(String what, long want, Ask ask) {
        PackingSearch x = sixCells();
        x.solve(3000);
        for (int call = 8; call <= 512; call++) {
            due(what + " as call " + call, want, () -> ask.of(x));
        }
    }

    private static void sidesOfTheBox() {
        sentence("each 1 .. 8; less counts as 1, more as 8");
        int[] told = {MIN, -8, -1, 0, 1, 2, 7, 8, 9, 10, 16, MAX};
        int[] side = {1, 1, 1, 1, 1, 2, 7, 8, 8, 8, 8, 8};
        for (int axis = 0; axis < 3; axis++) {
            for (int i = 0; i < told.length; i++) {
                boxIsAsLong(axis, told[i], side[i]);
            }
        }
        PackingSearch least = packing(0, -5, MIN, p(1, 1, 1, 0), p(1, 1, 1, 0));
        due("the least box has one cell", 1, () -> least.bound());
        PackingSearch greatest = packing(9, 100, MAX, p(8, 8, 8, 0), p(1, 1, 1, 0));
        due("the greatest has 512", 512, () -> greatest.bound());
        due("and all of them are filled", 512, () -> greatest.solve(3000));
    }

    private static void boxIsAsLong(int axis, int told, int side) {
        String what = SIDE[axis] + " " + told + ": ";
        int[] last = along(axis, side - 1);
        int[] next = along(axis, side);
        for (int other = 0; other < 3; other++) {
            last[other] = other == axis ? last[other] : 0;
            next[other] = other == axis ? next[other] : 0;
        }
        PackingSearch x = rowAlong(axis, told);
        due(what + "the last cell", -1, () -> x.cell(last[0], last[1], last[2]));
        refused(what + "the next one", NO_CELL, () -> x.cell(next[0], next[1], next[2]));
        PackingSearch fits = rowAlong(axis, told, side);
        due(what + "a piece as long", side, () -> fits.solve(3000));
        if (side < 8) {
            PackingSearch sticksOut = rowAlong(axis, told, side + 1);
            due(what + "a piece longer by one", 0, () -> sticksOut.solve(3000));
        }
    }

    private static void atMostSixPieces() {
        sentence("PIECES 0, 1, .. (at most 6, as they come)");
        PackingSearch x = new PackingSearch(1, 1, 1);
        for (int i = 0; i < 6; i++) {
            due("piece " + i, i, () -> x.piece(1, 1, 1, 0));
        }
        refused("one more", NO_ROOM, () -> x.piece(1, 1, 1, 0));
        due("pieces", 6, () -> x.count(0));
        due("a search of six", 1, () -> x.solve(3000));
        x.close();
        due("one is packed", 5, () -> x.count(2));
        refused("one more then", NO_ROOM, () -> x.piece(1, 1, 1, 0));
        due("pieces then", 6, () -> x.count(0));
    }

    private static void sidesOfPieces() {
        sentence("a width, a depth, a height (1 .. 8 each)");
        for (int number : new int[] {MIN, -1, 0, 9, 10, MAX}) {
            PackingSearch x = new PackingSearch(8, 8, 8);
            refused("width " + number, RANGE, () -> x.piece(number, 1, 1, 0));
            refused("depth " + number, RANGE, () -> x.piece(1, number, 1, 0));
            refused("height " + number, RANGE, () -> x.piece(1, 1, number, 0));
            due("no piece came", 0, () -> x.count(0));
        }
        for (int axis = 0; axis < 3; axis++) {
            for (int side = 1; side <= 8; side++) {
                int want = side;
                PackingSearch x = rowAlong(axis, 8, side);
                due(SIDE[axis] + " " + side, want, () -> x.solve(3000));
            }
        }
    }

    private static void weights() {
        sentence("a weight 0 .. 100");
        for (int number : new int[] {MIN, -2, -1, 101, 102, MAX}) {
            PackingSearch x = new PackingSearch(1, 1, 1);
            refused("weight " + number, RANGE, () -> x.piece(1, 1, 1, number));
            due("no piece came", 0, () -> x.count(0));
        }
        for (int number : new int[] {0, 1, 99, 100}) {
            PackingSearch x = packing(1, 1, 1, p(1, 1, 1, number));
            x.solve(3000);
            due("weight " + number, number, () -> x.count(5));
        }
    }

    private static void marks() {
        sentence("MARKS 0 .. 3");
        rangeIs("marks", 0, 3, packing(1, 1, 1, p(1, 2, 3, 0)), (x, number) -> x.turn(0, number));
    }

    private static void marksAtFirst() {
        sentence("MARKS 0 .. 3 (0 at first)");
        PackingSearch x = packing(2, 1, 1, p(1, 2, 1, 0));
        due("it is not turned", 0, () -> x.solve(3000));
        due("one way is tried", 1, () -> x.steps());
        x.turn(0, 1);
        due("with a mark it is", 2, () -> x.solve(3000));
        PackingSearch lying = packing(1, 2, 1, p(1, 1, 2, 0));
        due("it is not laid down", 0, () -> lying.solve(3000));
        lying.turn(0, 2);
        due("with the other mark it is", 2, () -> lying.solve(3000));
    }

    private static void limits() {
        sentence("a LIMIT -1 .. 1000");
        rangeIs("limit", -1, 1000, packing(1, 1, 1, p(1, 1, 1, 0)), (x, number) -> x.limit(0, number));
    }

    private static void noLimit() {
        sentence("a LIMIT (-1 at first: none)");
        PackingSearch x = tower(100, 6);
        due("at first five of the greatest weight are borne", 6, () -> x.solve(3000));
        PackingSearch two = tower(1, 2);
        two.limit(0, 0);
        due("0 is a limit", 1, () -> two.solve(3000));
        two.limit(0, -1);
        due("-1 is none", 2, () -> two.solve(3000));
        PackingSearch light = tower(0, 2);
        light.limit(0, 0);
        due("no weight is not more than 0", 2, () -> light.solve(3000));
    }

    private static void ranks() {
        sentence("a RANK 0 .. 9");
        rangeIs("rank", 0, 9, packing(1, 1, 1, p(1, 1, 1, 0)), (x, number) -> x.rank(0, number));
    }

    private static void ranksAtFirst() {
        sentence("a RANK 0 .. 9 (0 at first)");
        PackingSearch x = packing(1, 1, 1, p(1, 1, 1, 0), p(1, 1, 1, 0));
        due("0 has none behind 0's", 1, () -> x.rank(1, 0));
        due("the other one's is less than 1", 1, () -> x.rank(0, 1));
    }

    private static void shares() {
        sentence("the SHARE (in hundredths, 0 .. 100; 0 at first)");
        rangeIs("share", 0, 100, packing(1, 1, 1), (x, number) -> x.share(number));
        // Neither of the first two bears the third, so beside the high one and above the low one it flies.
        PackingSearch x = packing(2, 1, 3, p(1, 1, 2, 0), p(1, 1, 1, 0), p(1, 1, 1, 1));
        x.limit(0, 0);
        x.limit(1, 0);
        x.solve(3000);
        placeIs("at first a piece may stand on nothing", x, 2, 1, 0, 2);
        due("its support", 0, () -> x.support(2));
        x.share(1);
        x.solve(3000);
        placeIs("with the least share it may not", x, 2, 1, 0, 0);
        x.share(0);
        x.solve(3000);
        placeIs("with none it may again", x, 2, 1, 0, 2);
    }

    /** A box that has just the sides of one way: the piece (1, 2, 3) goes in only where that way is let. */
    private static void waysAndMarks() {
        sentence("Way 0 is always let; 1 with mark 1; 2 and 4 with mark 2; 3 and 5 with both");
        int[][] standing = {{1, 2, 3}, {2, 1, 3}, {1, 3, 2}, {3, 1, 2}, {2, 3, 1}, {3, 2, 1}};
        boolean[][] let = {
            {true, true, true, true}, {false, true, false, true}, {false, false, true, true},
            {false, false, false, true}, {false, false, true, true}, {false, false, false, true},
        };
        for (int way = 0; way < 6; way++) {
            for (int marks = 0; marks <= 3; marks++) {
                int[] s = standing[way];
                PackingSearch x = packing(s[0], s[1], s[2], p(1, 2, 3, 0));
                x.turn(0, marks);
                boolean goesIn = let[way][marks];
                String what = "way " + way + " with marks " + marks;
                due(what + ": bound", goesIn ? 6 : 0, () -> x.bound());
                due(what + ": solve", goesIn ? 6 : 0, () -> x.solve(3000));
                placeIs(what, x, 0, goesIn ? new int[] {0, 0, 0, s[0], s[1], s[2], way}
                        : new int[] {-1, -1, -1, -1, -1, -1, -1});
            }
        }
    }

    private static void waysThatAreAlike() {
        sentence("One that is alike in all three to a lower one that is let is none");
        int[][] sides = {{1, 2, 3}, {1, 2, 2}, {2, 2, 1}, {2, 1, 2}, {2, 2, 2}};
        int[][] ways = {{1, 2, 3, 6}, {1, 2, 2, 3}, {1, 1, 2, 3}, {1, 2, 3, 3}, {1, 1, 1, 1}};
        for (int i = 0; i < sides.length; i++) {
            PackingSearch x = packing(1, 1, 1, p(sides[i][0], sides[i][1], sides[i][2], 0));
            for (int marks = 0; marks <= 3; marks++) {
                int told = marks;
                String what = "kind " + i + " with marks " + marks;
                due(what, ways[i][marks], () -> x.turn(0, told));
                x.solve(3000);
                due(what + ", ways tried", ways[i][marks], () -> x.steps());
            }
        }
        PackingSearch x = packing(1, 2, 2, p(2, 1, 2, 0));
        x.turn(0, 3);
        x.solve(3000);
        due("4 is alike to 1, which is let", 1, () -> x.at(0, 6));
        x.turn(0, 2);
        x.solve(3000);
        due("4 is alike to 1, which is not let", 4, () -> x.at(0, 6));
    }

    private static void inTheBox() {
        sentence("A PLAN has some pieces at places in the box");
        for (int axis = 0; axis < 3; axis++) {
            for (int box = 1; box <= 8; box++) {
                for (int one = 1; one <= 8; one++) {
                    int alone = one <= box ? one : 0;
                    int rest = Math.max(1, box - one);
                    String what = SIDE[axis] + " " + box + " for " + one + " and ";
                    PackingSearch fits = rowAlong(axis, box, one, rest);
                    due(what + rest, Math.max(alone + rest <= box ? alone + rest : alone, rest), () -> fits.solve(3000));
                    if (one < box) {
                        PackingSearch sticksOut = rowAlong(axis, box, one, rest + 1);
                        due(what + (rest + 1), Math.max(one, rest + 1), () -> sticksOut.solve(3000));
                    }
                }
            }
        }
    }

    /** The third piece could only stand where it has one cell (or slice) in common with the second. */
    private static void noCommonRoom() {
        sentence("no two with a common room");
        for (int axis = 0; axis < 3; axis++) {
            for (int across = 1; across <= 2; across++) {
                int slice = across * across;
                String what = "along the " + SIDE[axis] + ", across " + across + ": ";
                for (int room = 3; room <= 5; room++) {
                    PackingSearch x = slices(axis, across, room, 1, 2, 2);
                    int want = room * slice;
                    due(what + "room for " + room, want, () -> x.solve(3000));
                }
            }
        }
    }

    private static PackingSearch slices(int axis, int across, int room, int... lengths) {
        int[] box = {across, across, across};
        box[axis] = room;
        PackingSearch x = new PackingSearch(box[0], box[1], box[2]);
        for (int length : lengths) {
            int[] s = {across, across, across};
            s[axis] = length;
            x.piece(s[0], s[1], s[2], 0);
        }
        return x;
    }

    /** A cell keeps the first bar off one side; the second one would go through its middle. */
    private static void barsThatCross() {
        sentence("no two with a common room");
        int[][] planes = {{0, 1}, {0, 2}, {1, 2}};
        for (int[] plane : planes) {
            int[] box = {1, 1, 1};
            box[plane[0]] = 3;
            box[plane[1]] = 3;
            int[] one = along(plane[0], 3);
            int[] two = along(plane[1], 3);
            String what = "bars along " + SIDE[plane[0]] + " and " + SIDE[plane[1]];
            PackingSearch x = packing(box[0], box[1], box[2], p(1, 1, 1, 0), one, two);
            due(what, 4, () -> x.solve(3000));
            PackingSearch y = packing(box[0], box[1], box[2], p(1, 1, 1, 0), two, one);
            due(what + ", the other one first", 4, () -> y.solve(3000));
        }
    }

    /** The roof lies on the higher wall; the lower one is as high as it, or lower by one. */
    private static void standsAtTheTop() {
        sentence("A piece STANDS ON another one if its bottom is at the other one's top");
        for (int low = 1; low <= 2; low++) {
            PackingSearch x = packing(2, 1, 3, p(1, 1, low, 0), p(1, 1, 2, 0), p(2, 1, 1, 9));
            int all = low + 2 + 2;
            boolean both = low == 2;
            String what = "a wall of " + low + " beside one of 2: ";
            due(what + "all are in", all, () -> x.solve(3000));
            due(what + "the roof's height", 2, () -> x.at(2, 2));
            due(what + "the roof's support", both ? 100 : 50, () -> x.support(2));
            due(what + "borne by the wall", both ? 9 : 0, () -> x.bears(0));
            due(what + "borne by the other", 9, () -> x.bears(1));
            yes(what + "the roof is over it", () -> x.over(2, 0));
        }
    }

    private static void standsWithACommonArea() {
        sentence("A piece STANDS ON another one if the two have a common area, seen from above");
        PackingSearch x = packing(2, 2, 2,
                p(1, 1, 1, 1), p(1, 1, 1, 2), p(1, 1, 1, 4), p(1, 1, 1, 8), p(1, 1, 1, 16));
        due("four cells, and one on the first", 5, () -> x.solve(3000));
        placeIs("the upper one", x, 4, 0, 0, 1);
        due("the one under it", 16, () -> x.bears(0));
        due("one that it touches along an edge in x", 0, () -> x.bears(1));
        due("one that it touches along an edge in y", 0, () -> x.bears(2));
        due("one that it touches at a corner", 0, () -> x.bears(3));
        due("its support", 100, () -> x.support(4));
        PackingSearch wide = packing(2, 2, 2, p(1, 1, 1, 1), p(1, 1, 1, 2), p(1, 1, 1, 4), p(1, 1, 1, 8), p(2, 1, 1, 16));
        wide.solve(3000);
        due("a wider one stands on the next too", 16, () -> wide.bears(1));
        due("but not on those beside it", 0, () -> wide.bears(2) + wide.bears(3));
    }

    private static void supportAtTheBottom() {
        sentence("Its SUPPORT is its whole area if z is 0");
        PackingSearch x = packing(2, 2, 2, p(2, 1, 1, 0), p(1, 2, 1, 0));
        x.share(100);
        due("with the greatest share, pieces at the bottom alone", 2, () -> x.solve(3000));
        due("its support", 100, () -> x.support(0));
        x.share(50);
        due("one above the bottom with half of it", 4, () -> x.solve(3000));
        due("half of its support", 50, () -> x.support(1));
        due("the support at the bottom is the whole", 100, () -> x.support(0));
    }

    private static void supportIsASum() {
        sentence("Its SUPPORT is .. else the sum of these common areas");
        for (int walls = 1; walls <= 4; walls++) {
            PackingSearch x = new PackingSearch(4, 1, 2);
            for (int i = 0; i < walls; i++) {
                x.piece(1, 1, 1, 0);
            }
            x.piece(4, 1, 1, 0);
            int roof = walls;
            x.share(25 * walls);
            due("a roof of four on " + walls, 4 + walls, () -> x.solve(3000));
            due("its support", 25 * walls, () -> x.support(roof));
            x.share(Math.min(100, 25 * walls + 1));
            due("a share more than that", walls == 4 ? 8 : 4, () -> x.solve(3000));
        }
    }

    /** Away from x 0 and y 0: on one that begins with it, and on one that begins before it. */
    private static void supportBesideTheCorner() {
        sentence("Its SUPPORT is .. else the sum of these common areas");
        PackingSearch half = packing(4, 1, 2, p(2, 1, 2, 0), p(1, 1, 1, 0), p(2, 1, 1, 0));
        half.solve(3000);
        placeIs("in x", half, 2, 2, 0, 1);
        due("half of it, in x", 50, () -> half.support(2));
        PackingSearch deep = packing(1, 4, 2, p(1, 2, 2, 0), p(1, 1, 1, 0), p(1, 2, 1, 0));
        deep.solve(3000);
        placeIs("in y", deep, 2, 0, 2, 1);
        due("half of it, in y", 50, () -> deep.support(2));
        PackingSearch whole = packing(4, 1, 2, p(4, 1, 1, 0), p(2, 1, 1, 0), p(2, 1, 1, 0));
        whole.solve(3000);
        placeIs("on a wide floor", whole, 2, 2, 0, 1);
        due("all of it, in x", 100, () -> whole.support(2));
        PackingSearch far = packing(1, 4, 2, p(1, 4, 1, 0), p(1, 2, 1, 0), p(1, 2, 1, 0));
        far.solve(3000);
        placeIs("on a deep floor", far, 2, 0, 2, 1);
        due("all of it, in y", 100, () -> far.support(2));
    }

    private static void supportNotLessThanTheShare() {
        sentence("it must not be less than the SHARE of its area");
        for (int roof = 1; roof <= 8; roof++) {
            for (int wall = 1; wall <= roof; wall++) {
                PackingSearch x = packing(roof, 1, 2, p(wall, 1, 1, 0), p(roof, 1, 1, 0));
                for (int share = 0; share <= 100; share++) {
                    boolean enough = wall * 100 >= share * roof;
                    x.share(share);
                    due(wall + " of " + roof + " with share " + share, enough ? roof + wall : roof, () -> x.solve(3000));
                }
            }
        }
    }

    private static void supportByMoreThanOne() {
        sentence("it must not be less than the SHARE of its area");
        PackingSearch x = packing(8, 8, 2, p(8, 7, 1, 0), p(7, 1, 1, 0), p(8, 8, 1, 0));
        x.share(98);
        due("63 of 64 with share 98", 127, () -> x.solve(3000));
        due("rests are dropped from its support", 98, () -> x.support(2));
        x.share(99);
        due("63 of 64 with share 99", 64, () -> x.solve(3000));
        PackingSearch little = packing(8, 8, 2, p(1, 1, 1, 0), p(8, 8, 1, 0));
        little.share(1);
        due("1 of 64 with share 1", 65, () -> little.solve(3000));
        little.share(2);
        due("1 of 64 with share 2", 64, () -> little.solve(3000));
    }

    private static void bearsEachOnce() {
        sentence("A piece BEARS the weights of all pieces that stand on it, or on one that stands on it, "
                + "and so on, each once");
        PackingSearch x = packing(2, 1, 4,
                p(2, 1, 1, 1), p(1, 1, 1, 2), p(1, 1, 1, 4), p(2, 1, 1, 8), p(1, 1, 1, 16), p(1, 1, 1, 32));
        x.solve(3000);
        due("all are in", 6, () -> x.count(1));
        int[] want = {62, 56, 56, 48, 0, 0};
        for (int i = 0; i < want.length; i++) {
            int piece = i;
            due("borne by " + i, want[i], () -> x.bears(piece));
        }
        PackingSearch high = tower(100, 6);
        high.solve(3000);
        for (int i = 0; i < 6; i++) {
            int floor = i;
            due("borne by floor " + i, 100 * (5 - floor), () -> high.bears(floor));
        }
    }

    /** Ranks make each of the six orders of a tower: what is borne goes by places, not by numbers. */
    private static void bearsWhateverTheNumbers() {
        sentence("A piece BEARS the weights of all pieces that stand on it, or on one that stands on it");
        int[][] orders = {{0, 1, 2}, {0, 2, 1}, {1, 0, 2}, {1, 2, 0}, {2, 0, 1}, {2, 1, 0}};
        int[] weight = {1, 10, 100};
        for (int[] o : orders) {
            PackingSearch x = packing(1, 1, 3, p(1, 1, 1, 1), p(1, 1, 1, 10), p(1, 1, 1, 100));
            for (int i = 0; i < 3; i++) {
                x.rank(o[i], i);
            }
            String what = "upward " + o[0] + ", " + o[1] + ", " + o[2] + ": borne by ";
            int onAll = weight[o[1]] + weight[o[2]];
            x.solve(3000);
            due(what + "the lowest", onAll, () -> x.bears(o[0]));
            due(what + "the middle", weight[o[2]], () -> x.bears(o[1]));
            due(what + "the highest", 0, () -> x.bears(o[2]));
            x.limit(o[0], onAll);
            due("with a limit as great", 3, () -> x.solve(3000));
            x.limit(o[0], onAll - 1);
            due("with one less", 2, () -> x.solve(3000));
        }
        PackingSearch six = new PackingSearch(1, 1, 6);
        for (int i = 0; i < 6; i++) {
            six.piece(1, 1, 1, 1 << i);
            six.rank(i, 9 - i);
        }
        six.solve(3000);
        for (int i = 0; i < 6; i++) {
            int piece = i;
            due("numbers downward: borne by " + i, (1 << i) - 1, () -> six.bears(piece));
        }
        for (int i = 1; i < 6; i++) {
            six.limit(i, (1 << i) - 1);
            due("numbers downward: all limits reached up to " + i, 6, () -> six.solve(3000));
        }
        six.limit(5, 30);
        due("the lowest bears one less", 5, () -> six.solve(3000));
    }

    private static void bearsNotMoreThanItsLimit() {
        sentence("BEARS .. not more than its limit");
        for (int floor = 0; floor < 5; floor++) {
            int borne = 100 * (5 - floor);
            int under = floor;
            PackingSearch x = tower(100, 6);
            x.limit(floor, borne);
            due("floor " + floor + " with limit " + borne, 6, () -> x.solve(3000));
            x.limit(floor, borne - 1);
            due("floor " + floor + " with one less", 5, () -> x.solve(3000));
            due("it bears one less", borne - 100, () -> x.bears(under));
        }
        PackingSearch once = packing(2, 1, 3, p(2, 1, 1, 0), p(1, 1, 1, 0), p(1, 1, 1, 0), p(2, 1, 1, 7));
        once.limit(0, 7);
        due("one that stands on two is borne once", 6, () -> once.solve(3000));
        once.limit(0, 6);
        due("that is one too many", 4, () -> once.solve(3000));
        PackingSearch below = packing(2, 1, 2, p(1, 1, 1, 0), p(2, 1, 1, 9), p(1, 1, 1, 0));
        below.limit(2, 9);
        due("a piece comes below one that it can bear", 4, () -> below.solve(3000));
        below.limit(2, 8);
        due("and below none that it can't", 3, () -> below.solve(3000));
    }

    private static void orderOfTheSearch() {
        sentence("A SEARCH takes the pieces by rank, of equal ones by number");
        int[] ranks = {0, 1, 8, 9};
        for (int a : ranks) {
            for (int b : ranks) {
                for (int c : ranks) {
                    orderIsBy(a, b, c);
                }
            }
        }
    }

    /** Of three that are alike the first plan is a row, in the order in which they are taken. */
    private static void orderIsBy(int... ranks) {
        PackingSearch x = packing(3, 1, 1, p(1, 1, 1, 0), p(1, 1, 1, 0), p(1, 1, 1, 0));
        for (int i = 0; i < 3; i++) {
            x.rank(i, ranks[i]);
        }
        x.solve(3000);
        for (int i = 0; i < 3; i++) {
            int piece = i;
            int before = 0;
            for (int j = 0; j < 3; j++) {
                before += ranks[j] < ranks[i] || ranks[j] == ranks[i] && j < i ? 1 : 0;
            }
            String what = "ranks " + ranks[0] + ", " + ranks[1] + ", " + ranks[2] + ": ";
            due(what + "place of " + i, before, () -> x.at(piece, 0));
            due(what + "rank of " + i, before, () -> x.rank(piece, ranks[piece]));
        }
    }

    private static void packedPiecesAreNotSearched() {
        sentence("A SEARCH takes the pieces that are not packed");
        PackingSearch x = packing(1, 1, 1, p(1, 1, 1, 0), p(1, 1, 1, 0));
        x.solve(3000);
        x.close();
        due("the other one is left", 1, () -> x.solve(3000));
        due("it alone was tried", 1, () -> x.steps());
        due("the packed one is not in the plan", -1, () -> x.at(0, 0));
        due("the other one is", 0, () -> x.at(1, 0));
        x.close();
        due("none is left", 0, () -> x.solve(3000));
        due("none was tried", 0, () -> x.steps());
    }

    private static void waysUpward() {
        sentence("For each it tries: ways upward");
        int[][] boxes = {{1, 2, 3}, {2, 1, 3}, {1, 3, 2}, {3, 1, 2}, {2, 3, 1}, {3, 2, 1}};
        for (int way = 0; way < 6; way++) {
            PackingSearch x = packing(boxes[way][0], boxes[way][1], boxes[way][2], p(1, 2, 3, 0));
            x.turn(0, 3);
            int before = way;
            due("way " + way + " has not come", 0, () -> x.solve(before));
            due("way " + way + " has come", 6, () -> x.solve(before + 1));
        }
        PackingSearch all = packing(3, 3, 3, p(1, 2, 3, 0));
        all.turn(0, 3);
        all.solve(3000);
        due("of all of them the lowest is the first", 0, () -> all.at(0, 6));
        PackingSearch places = packing(2, 2, 2, p(2, 1, 1, 0), p(2, 1, 1, 0));
        places.turn(1, 3);
        places.solve(3000);
        placeIs("a lower way goes before a lower place", places, 1, 0, 1, 0, 2, 1, 1, 0);
        PackingSearch higher = packing(2, 1, 2, p(2, 1, 1, 0), p(1, 1, 2, 0));
        higher.turn(1, 3);
        higher.solve(3000);
        placeIs("a higher way where no lower one goes", higher, 1, 0, 0, 1, 2, 1, 1, 3);
    }

    /** The second piece goes to the first free end: the number of steps tells how many came before. */
    private static void placesUpward() {
        sentence("for each heights z upward, then y upward, then x upward");
        int[][] boxes = {{8, 8, 8}, {2, 8, 8}, {2, 3, 8}};
        int[][] places = {{2, 0, 0}, {0, 3, 0}, {0, 0, 4}};
        int[] trial = {2, 3, 5};
        for (int i = 0; i < boxes.length; i++) {
            PackingSearch x = packing(boxes[i][0], boxes[i][1], boxes[i][2], p(2, 3, 4, 0), p(1, 1, 1, 0));
            int last = trial[i];
            String what = "along the " + SIDE[i];
            due(what + ", a step too few", 0, () -> x.solve(last));
            due(what + ", just enough", 25, () -> x.solve(last + 1));
            placeIs(what, x, 1, places[i][0], places[i][1], places[i][2]);
            x.solve(3000);
            placeIs(what + ", all steps", x, 1, places[i][0], places[i][1], places[i][2]);
        }
        // At each of the eight corners the heights come last: of 2 x 2 x 2 cells the six lowest.
        PackingSearch six = packing(2, 2, 2, p(1, 1, 1, 0), p(1, 1, 1, 0), p(1, 1, 1, 0), p(1, 1, 1, 0),
                p(1, 1, 1, 0), p(1, 1, 1, 0));
        six.solve(3000);
        for (int i = 0; i < 6; i++) {
            placeIs("cell " + i, six, i, i % 2, i / 2 % 2, i / 4);
        }
    }

    private static void placesAtEndsAlone() {
        sentence("each 0 or an end (x + width, y + depth, z + height) of a piece");
        PackingSearch x = packing(1, 1, 2, p(1, 1, 1, 0), p(1, 1, 1, 1));
        x.limit(0, 0);
        due("the first one is tried at the bottom alone", 1, () -> x.solve(3000));
        x.rank(0, 1);
        due("behind the other one it is tried on it too", 2, () -> x.solve(3000));
        PackingSearch single = packing(8, 8, 8, p(1, 1, 1, 0));
        single.solve(3000);
        due("without another piece there is one place", 1, () -> single.steps());
        PackingSearch ends = packing(8, 8, 8, p(2, 3, 4, 0), p(1, 1, 1, 0));
        ends.solve(3000);
        due("with one there are eight", 1 + 8 + 1, () -> ends.steps());
        PackingSearch full = packing(8, 8, 8, p(8, 8, 8, 0), p(1, 1, 1, 0));
        full.solve(3000);
        due("an end at the box's far side is an end", 1 + 8 + 1, () -> full.steps());
        due("but nothing stands there", -1, () -> full.at(1, 0));
    }

    private static void endsOfPlacedPiecesAlone() {
        sentence("an end of a piece that is placed already");
        PackingSearch x = packing(2, 1, 1, p(1, 1, 1, 0), p(1, 1, 1, 0), p(1, 1, 1, 0));
        x.solve(3000);
        // 0 once; 1 beside it at 8 places; 2 at 12, as equal ends are one; 2 beside 0 alone; 1 alone and so on.
        due("equal ends are one, and those of pieces taken away are none", 1 + 8 + 12 + 8 + 1 + 8 + 1, () -> x.steps());
        x.close();
        x.solve(3000);
        due("nor are those of packed pieces", 1, () -> x.steps());
    }

    private static void eachTrialIsAStep() {
        sentence("Each such trial is a STEP");
        for (int pieces = 0; pieces <= 6; pieces++) {
            int want = pieces;
            PackingSearch x = new PackingSearch(1, 1, 1);
            for (int i = 0; i < pieces; i++) {
                x.piece(2, 2, 2, 0);
            }
            x.solve(3000);
            due(pieces + " that don't fit", want, () -> x.steps());
        }
        PackingSearch x = sixCells();
        for (int steps : new int[] {0, 1, 2, 2999, 3000}) {
            x.solve(steps);
            due("of " + steps, steps, () -> x.steps());
        }
    }

    private static void takenAwayAgain() {
        sentence("behind that it is taken away again");
        PackingSearch x = packing(3, 1, 1, p(1, 1, 1, 0), p(3, 1, 1, 0));
        due("the first one is not in the way of the second", 3, () -> x.solve(3000));
        due("it is out", -1, () -> x.at(0, 0));
        due("the second is in", 0, () -> x.at(1, 0));
        due("a search that ends too early", 0, () -> x.solve(1));
        due("leaves nothing in the way of the next one", 3, () -> x.solve(3000));
        due("which does all again", 1 + 8 + 1, () -> x.steps());
    }

    private static void leftOut() {
        sentence("When all trials of a piece are done it is left out, and the search goes on with the next one");
        PackingSearch x = packing(2, 1, 1, p(3, 1, 1, 0), p(1, 1, 1, 0), p(3, 1, 1, 0), p(1, 1, 1, 0));
        due("those that fit", 2, () -> x.solve(3000));
        placeIs("the first of them", x, 1, 0);
        placeIs("the second", x, 3, 1);
        due("those that don't", -2, () -> x.at(0, 0) + x.at(2, 0));
        PackingSearch none = packing(1, 1, 1, p(2, 1, 1, 0), p(1, 2, 1, 0), p(1, 1, 2, 0));
        due("none fits", 0, () -> none.solve(3000));
        yes("and all was done", () -> none.exact());
    }

    private static void greaterThanTheBest() {
        sentence("if its pieces' volumes together are greater than those of the best one so far");
        PackingSearch equal = packing(3, 1, 1, p(3, 1, 1, 0), p(2, 1, 1, 0), p(1, 1, 1, 0));
        due("two that are as great", 3, () -> equal.solve(3000));
        due("the first plan stays", 0, () -> equal.at(0, 0));
        due("the later one is not taken", -2, () -> equal.at(1, 0) + equal.at(2, 0));
        PackingSearch greater = packing(4, 1, 1, p(3, 1, 1, 0), p(2, 1, 1, 0), p(2, 1, 1, 0));
        due("two that are greater by one", 4, () -> greater.solve(3000));
        due("the first plan is gone", -1, () -> greater.at(0, 0));
        placeIs("the later one", greater, 1, 0);
        placeIs("the later one", greater, 2, 2);
        PackingSearch less = packing(4, 1, 1, p(4, 1, 1, 0), p(2, 1, 1, 0), p(1, 1, 1, 0));
        due("two that are less", 4, () -> less.solve(3000));
        due("the first plan stays then too", 0, () -> less.at(0, 0));
    }

    private static void noStepsLeft() {
        sentence("If there are no steps left for a trial the search ends at once");
        PackingSearch none = new PackingSearch(1, 1, 1);
        none.solve(0);
        yes("no trial needs no step", () -> none.exact());
        PackingSearch one = packing(1, 1, 1, p(1, 1, 1, 0));
        due("a trial without a step", 0, () -> one.solve(0));
        no("is not done", () -> one.exact());
        due("a trial with a step", 1, () -> one.solve(1));
        yes("is", () -> one.exact());
        due("a step more", 1, () -> one.solve(2));
        due("is not needed", 1, () -> one.steps());
        PackingSearch two = packing(1, 1, 1, p(1, 1, 1, 0), p(1, 1, 1, 0));
        due("the first is placed, the second has no step", 0, () -> two.solve(1));
        due("so that plan is not looked at", 0, () -> two.count(1));
        due("nor with all but one of its trials", 0, () -> two.solve(8));
        due("with all of them it is", 1, () -> two.solve(9));
        no("though the search is not at its end", () -> two.exact());
    }

    /** In a row of 5, of 4, 3 and 2: 4 alone, then 3 and 2 beside it; each number of steps up to all. */
    private static void everyNumberOfSteps() {
        sentence("If there are no steps left for a trial the search ends at once");
        PackingSearch x = packing(5, 1, 1, p(4, 1, 1, 0), p(3, 1, 1, 0), p(2, 1, 1, 0));
        // 0; 1's eight and 2's eight beside it, then 4 is looked at; 1; 2's first two, the second at its end: 5.
        int first = 1 + 8 + 8;
        int second = first + 1 + 2;
        int all = first + 1 + 8 + 1;
        for (int steps = 0; steps <= all + 2; steps++) {
            int told = steps;
            String what = "of " + steps + " steps: ";
            due(what + "volume", steps < first ? 0 : steps < second ? 4 : 5, () -> x.solve(told));
            due(what + "steps", Math.min(told, all), () -> x.steps());
            due(what + "exact", steps < all ? 0 : 1, () -> x.exact() ? 1 : 0);
            due(what + "pieces", steps < first ? 0 : steps < second ? 1 : 2, () -> x.count(1));
        }
    }
}
