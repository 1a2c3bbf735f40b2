/** For each promise of the document: ordinary inputs, the edges that it names, and wrong inputs. */
public final class PromisesTest extends Checks {
    public static void main(String[] args) {
        newObject();
        pieces();
        turns();
        turnsInPlans();
        limits();
        limitsBelow();
        ranks();
        shares();
        solves();
        solvesOfFewSteps();
        exacts();
        stepCounts();
        bounds();
        ats();
        overs();
        supports();
        bearings();
        cells();
        closes();
        boxes();
        counts();
        end();
    }

    private static void newObject() {
        sentence("Promise 1");
        PackingSearch x = new PackingSearch(3, 4, 5);
        for (int what = 0; what <= 6; what++) {
            int asked = what;
            due("count(" + what + ") of a new object", 0, () -> x.count(asked));
        }
        due("bound of a new object", 0, () -> x.bound());
        due("cell(2, 3, 4)", -1, () -> x.cell(2, 3, 4));
        refused("cell(3, 0, 0)", NO_CELL, () -> x.cell(3, 0, 0));
        refused("cell(0, 4, 0)", NO_CELL, () -> x.cell(0, 4, 0));
        refused("cell(0, 0, 5)", NO_CELL, () -> x.cell(0, 0, 5));
        refused("box(0)", NO_PIECE, () -> x.box(0));
    }

    private static void pieces() {
        sentence("Promise 2");
        PackingSearch x = new PackingSearch(8, 8, 8);
        refused("width 0", RANGE, () -> x.piece(0, 1, 1, 0));
        refused("width 9", RANGE, () -> x.piece(9, 1, 1, 0));
        refused("depth 0", RANGE, () -> x.piece(1, 0, 1, 0));
        refused("depth 9", RANGE, () -> x.piece(1, 9, 1, 0));
        refused("height 0", RANGE, () -> x.piece(1, 1, 0, 0));
        refused("height 9", RANGE, () -> x.piece(1, 1, 9, 0));
        refused("weight -1", RANGE, () -> x.piece(1, 1, 1, -1));
        refused("weight 101", RANGE, () -> x.piece(1, 1, 1, 101));
        refused("least width", RANGE, () -> x.piece(MIN, 1, 1, 0));
        due("pieces behind refusals", 0, () -> x.count(0));
        due("least piece", 0, () -> x.piece(1, 1, 1, 0));
        due("greatest piece", 1, () -> x.piece(8, 8, 8, 100));
        for (int i = 2; i < 6; i++) {
            due("piece " + i, i, () -> x.piece(2, 3, 4, 5));
        }
        refused("a seventh", NO_ROOM, () -> x.piece(1, 1, 1, 1));
        refused("a seventh of width 0", RANGE, () -> x.piece(0, 1, 1, 1));
        refused("a seventh of weight 101", RANGE, () -> x.piece(1, 1, 1, 101));
        due("pieces", 6, () -> x.count(0));
        packedPiecesTakeRoom();
    }

    private static void packedPiecesTakeRoom() {
        PackingSearch x = new PackingSearch(8, 8, 8);
        for (int i = 0; i < 6; i++) {
            x.piece(1, 1, 1, 1);
        }
        x.solve(3000);
        x.close();
        refused("a seventh behind close", NO_ROOM, () -> x.piece(1, 1, 1, 1));
    }

    private static void turns() {
        sentence("Promise 3");
        int[][] sides = {{1, 2, 3}, {1, 1, 2}, {1, 2, 1}, {2, 1, 1}, {2, 2, 2}};
        int[][] ways = {{1, 2, 3, 6}, {1, 1, 2, 3}, {1, 2, 3, 3}, {1, 2, 2, 3}, {1, 1, 1, 1}};
        for (int i = 0; i < sides.length; i++) {
            PackingSearch x = new PackingSearch(8, 8, 8);
            x.piece(sides[i][0], sides[i][1], sides[i][2], 0);
            for (int marks = 3; marks >= 0; marks--) {
                int told = marks;
                due("kind " + i + " turn(0, " + marks + ")", ways[i][marks], () -> x.turn(0, told));
            }
        }
        PackingSearch x = new PackingSearch(8, 8, 8);
        x.piece(1, 2, 3, 0);
        refused("marks -1", RANGE, () -> x.turn(0, -1));
        refused("marks 4", RANGE, () -> x.turn(0, 4));
        refused("piece 1", NO_PIECE, () -> x.turn(1, 0));
        refused("piece -1", NO_PIECE, () -> x.turn(-1, 0));
        refused("piece 6, marks 4", NO_PIECE, () -> x.turn(6, 4));
    }

    private static void turnsInPlans() {
        PackingSearch x = new PackingSearch(1, 2, 3);
        x.piece(1, 2, 3, 0);
        x.solve(3000);
        x.turn(0, 3);
        due("the plan behind turn", 0, () -> x.at(0, 6));
        x.turn(0, 0);
        x.piece(3, 2, 1, 0);
        due("a new piece's marks are 0", 6, () -> x.bound());
    }

    private static PackingSearch tower(int floors, int weight) {
        PackingSearch x = new PackingSearch(1, 1, floors);
        for (int i = 0; i < floors; i++) {
            x.piece(1, 1, 1, weight);
        }
        return x;
    }

    private static void limits() {
        sentence("Promise 4");
        PackingSearch x = tower(3, 100);
        due("no limit at first", 3, () -> x.solve(3000));
        x.limit(0, 200);
        due("limit as the weight", 3, () -> x.solve(3000));
        due("piece 0 at the bottom", 0, () -> x.at(0, 2));
        x.limit(0, 199);
        due("limit under the weight; 0 comes first and so is only tried at the bottom", 2, () -> x.solve(3000));
        due("0 and 1 are the first two found", 1, () -> x.at(1, 2));
        x.limit(0, 1000);
        x.limit(0, -1);
        due("limit taken back", 3, () -> x.solve(3000));
        refused("limit -2", RANGE, () -> x.limit(0, -2));
        refused("limit 1001", RANGE, () -> x.limit(0, 1001));
        refused("piece 3", NO_PIECE, () -> x.limit(3, 0));
        refused("piece -1, limit -2", NO_PIECE, () -> x.limit(-1, -2));
        PackingSearch two = tower(2, 1);
        two.limit(0, 0);
        two.limit(1, 0);
        due("two that bear nothing", 1, () -> two.solve(3000));
        two.limit(1, 1);
        due("one of them bears one, but comes later", 1, () -> two.solve(3000));
        two.rank(0, 1);
        due("it comes first", 2, () -> two.solve(3000));
        two.limit(1, 0);
        due("the plan behind limit", 2, () -> two.count(4));
    }

    /** Weights go down through all that stand on one another, each once, and a piece may come below another. */
    private static void limitsBelow() {
        PackingSearch x = new PackingSearch(2, 1, 3);
        x.piece(2, 1, 1, 1);
        x.piece(1, 1, 1, 10);
        x.piece(1, 1, 1, 10);
        x.piece(2, 1, 1, 50);
        x.limit(0, 70);
        due("the roof stands on two, and is borne once", 6, () -> x.solve(3000));
        due("what the floor bears", 70, () -> x.bears(0));
        x.limit(0, 69);
        due("one less: the roof stands on one wall", 5, () -> x.solve(3000));
        due("what the floor bears then", 60, () -> x.bears(0));
        PackingSearch y = new PackingSearch(2, 1, 2);
        y.piece(1, 1, 1, 0);
        y.piece(2, 1, 1, 9);
        y.piece(1, 1, 1, 0);
        y.limit(2, 8);
        due("no piece comes below one that it can't bear", 3, () -> y.solve(3000));
        y.limit(2, 9);
        due("it bears it", 4, () -> y.solve(3000));
        due("it came below", 9, () -> y.bears(2));
    }

    private static void ranks() {
        sentence("Promise 5");
        PackingSearch x = new PackingSearch(1, 1, 1);
        for (int i = 0; i < 3; i++) {
            x.piece(1, 1, 1, 1);
        }
        due("rank(1, 0)", 1, () -> x.rank(1, 0));
        due("rank(0, 9)", 2, () -> x.rank(0, 9));
        due("rank(2, 9)", 2, () -> x.rank(2, 9));
        due("rank(1, 9)", 1, () -> x.rank(1, 9));
        due("rank(2, 8)", 0, () -> x.rank(2, 8));
        due("rank(0, 9) again", 1, () -> x.rank(0, 9));
        due("solve", 1, () -> x.solve(3000));
        due("the first of the order is in", 0, () -> x.at(2, 0));
        due("the lower number is not", -1, () -> x.at(0, 0));
        due("close", 0, () -> x.close());
        due("a packed piece's", -1, () -> x.rank(2, 0));
        due("the packed one counts no more", 0, () -> x.rank(0, 9));
        due("nor here", 1, () -> x.rank(1, 9));
        due("those of rank 9 are searched too", 1, () -> x.solve(3000));
        refused("rank -1", RANGE, () -> x.rank(0, -1));
        refused("rank 10", RANGE, () -> x.rank(0, 10));
        refused("rank 10 of a packed piece", RANGE, () -> x.rank(2, 10));
        refused("piece 3", NO_PIECE, () -> x.rank(3, 0));
        refused("piece -1, rank 10", NO_PIECE, () -> x.rank(-1, 10));
    }

    /** A roof of three cells above one of one cell: a third of its area is supported. */
    private static void shares() {
        sentence("Promise 6");
        int[] share = {0, 33, 34, 100};
        int[] volume = {4, 4, 3, 3};
        for (int i = 0; i < share.length; i++) {
            int told = i;
            PackingSearch x = new PackingSearch(3, 1, 2);
            x.piece(1, 1, 1, 0);
            x.piece(3, 1, 1, 0);
            x.share(share[i]);
            due("share " + share[i], volume[told], () -> x.solve(3000));
        }
        PackingSearch x = new PackingSearch(3, 1, 2);
        x.piece(1, 1, 1, 0);
        x.piece(3, 1, 1, 0);
        due("share at first", 4, () -> x.solve(3000));
        x.share(100);
        due("the plan behind share", 4, () -> x.count(4));
        refused("share -1", RANGE, () -> x.share(-1));
        refused("share 101", RANGE, () -> x.share(101));
        due("refused shares change nothing", 3, () -> x.solve(3000));
        PackingSearch flying = withOneFlying();
        flying.share(0);
        due("share 0: one flies", 4, () -> flying.solve(3000));
        due("2 in the air", 2, () -> flying.at(2, 2));
        flying.share(1);
        due("share 1: none flies, 1 goes onto 0 and leaves its place", 4, () -> flying.solve(3000));
        due("2 at the bottom", 0, () -> flying.at(2, 2));
    }

    /** Neither 0 nor 1 bears 2, so beside 0, and above 1, 2 flies: at the height of 0's end. */
    private static PackingSearch withOneFlying() {
        PackingSearch x = new PackingSearch(2, 1, 3);
        x.piece(1, 1, 2, 0);
        x.piece(1, 1, 1, 0);
        x.piece(1, 1, 1, 7);
        x.limit(0, 6);
        x.limit(1, 6);
        return x;
    }

    private static void solves() {
        sentence("Promise 7");
        PackingSearch x = new PackingSearch(4, 1, 1);
        x.piece(3, 1, 1, 0);
        x.piece(2, 1, 1, 0);
        x.piece(2, 1, 1, 0);
        due("the greedy 3 is left for 2 and 2", 4, () -> x.solve(3000));
        due("0 is out", -1, () -> x.at(0, 0));
        due("1 at 0", 0, () -> x.at(1, 0));
        due("2 at 2", 2, () -> x.at(2, 0));
        refused("steps -1", RANGE, () -> x.solve(-1));
        refused("steps 3001", RANGE, () -> x.solve(3001));
        due("the plan behind refusals", 4, () -> x.count(4));
        due("solve(0)", 0, () -> x.solve(0));
        due("the plan is empty then", 0, () -> x.count(1));
        PackingSearch first = new PackingSearch(2, 2, 2);
        first.piece(1, 1, 1, 0);
        first.piece(1, 1, 1, 0);
        due("two cells", 2, () -> first.solve(3000));
        due("of equal plans the first: x before y before z", 1, () -> first.at(1, 0));
        due("its y", 0, () -> first.at(1, 1));
        due("its z", 0, () -> first.at(1, 2));
        PackingSearch row = new PackingSearch(1, 2, 2);
        row.piece(1, 1, 1, 0);
        row.piece(1, 1, 1, 0);
        due("two cells in depth", 2, () -> row.solve(3000));
        due("y before z", 1, () -> row.at(1, 1));
        due("z stays", 0, () -> row.at(1, 2));
        PackingSearch ways = new PackingSearch(2, 2, 2);
        ways.piece(2, 1, 1, 0);
        ways.piece(2, 1, 1, 0);
        ways.turn(1, 3);
        due("a lower way goes before a lower place", 4, () -> ways.solve(3000));
        due("its way", 0, () -> ways.at(1, 6));
        due("its place", 1, () -> ways.at(1, 1));
    }

    private static void solvesOfFewSteps() {
        PackingSearch x = new PackingSearch(4, 1, 1);
        x.piece(3, 1, 1, 0);
        x.piece(2, 1, 1, 0);
        // 0 at x 0; 1 at x 0 and 3, at y 0 and 1, at z 0 and 1: nowhere; then the plan with 0 alone.
        due("a plan that was not looked at is none", 0, () -> x.solve(8));
        due("nothing is in it", -1, () -> x.at(0, 0));
        due("the next trial would be too many, the plan is there", 3, () -> x.solve(9));
        due("all ten", 3, () -> x.solve(10));
        due("0 in it", 0, () -> x.at(0, 0));
    }

    private static void exacts() {
        sentence("Promise 8");
        PackingSearch x = new PackingSearch(4, 1, 1);
        no("before a search", () -> x.exact());
        x.piece(3, 1, 1, 0);
        x.piece(2, 1, 1, 0);
        x.solve(9);
        no("one step too few", () -> x.exact());
        x.solve(10);
        yes("just enough", () -> x.exact());
        refused("steps 3001", RANGE, () -> x.solve(3001));
        yes("behind a refused search", () -> x.exact());
        x.close();
        yes("behind close", () -> x.exact());
        x.solve(0);
        no("no steps for the piece that is left", () -> x.exact());
        x.solve(1);
        yes("one step for it", () -> x.exact());
        x.close();
        x.solve(0);
        yes("all are packed, no steps needed", () -> x.exact());
        PackingSearch none = new PackingSearch(1, 1, 1);
        none.solve(0);
        yes("no pieces", () -> none.exact());
    }

    private static void stepCounts() {
        sentence("Promise 9");
        PackingSearch x = new PackingSearch(4, 1, 1);
        due("before a search", 0, () -> x.steps());
        x.piece(3, 1, 1, 0);
        x.piece(2, 1, 1, 0);
        x.solve(3000);
        due("1 + 8 with 0 in it + 1 without", 10, () -> x.steps());
        x.solve(4);
        due("as many as there were", 4, () -> x.steps());
        refused("steps -1", RANGE, () -> x.solve(-1));
        due("behind a refused search", 4, () -> x.steps());
        x.solve(0);
        due("none", 0, () -> x.steps());
        x.turn(1, 3);
        x.solve(3000);
        due("1 + 3 ways of 8 + 3 ways of 1", 28, () -> x.steps());
        x.close();
        due("behind close", 28, () -> x.steps());
        PackingSearch same = new PackingSearch(8, 1, 1);
        for (int i = 0; i < 3; i++) {
            same.piece(1, 8, 8, 0);
        }
        same.solve(3000);
        due("pieces that never fit", 3, () -> same.steps());
        PackingSearch equal = new PackingSearch(2, 2, 1);
        for (int i = 0; i < 3; i++) {
            equal.piece(1, 1, 1, 0);
        }
        equal.solve(1 + 8 + 12);
        due("equal ends are one", 21, () -> equal.steps());
        PackingSearch full = new PackingSearch(8, 8, 8);
        full.piece(8, 8, 8, 0);
        full.piece(1, 1, 1, 0);
        full.solve(3000);
        due("ends at the far side of the greatest box are tried too", 10, () -> full.steps());
        PackingSearch many = new PackingSearch(8, 8, 8);
        for (int i = 0; i < 6; i++) {
            many.piece(1, 1, 1, 0);
            many.turn(i, 3);
        }
        due("the first plan of six", 6, () -> many.solve(3000));
        due("all steps are used", 3000, () -> many.steps());
        no("and they were not enough", () -> many.exact());
    }

    private static void bounds() {
        sentence("Promise 10");
        PackingSearch x = new PackingSearch(2, 3, 4);
        due("no pieces", 0, () -> x.bound());
        x.piece(2, 3, 1, 0);
        due("a piece that fits", 6, () -> x.bound());
        x.piece(3, 2, 2, 0);
        due("one that does not fit so", 6, () -> x.bound());
        x.turn(1, 1);
        due("it fits turned", 18, () -> x.bound());
        x.piece(1, 3, 2, 0);
        due("as much as the box", 24, () -> x.bound());
        x.piece(1, 1, 1, 0);
        due("more than the box", 24, () -> x.bound());
        x.turn(1, 0);
        due("turned back", 13, () -> x.bound());
        x.solve(3000);
        due("pieces of the plan still count", 13, () -> x.bound());
        x.close();
        due("packed ones don't", 0, () -> x.bound());
        x.turn(1, 1);
        due("the one that is left", 12, () -> x.bound());
        PackingSearch sides = new PackingSearch(2, 3, 4);
        sides.piece(3, 1, 1, 0);
        sides.piece(1, 4, 1, 0);
        sides.piece(1, 1, 5, 0);
        due("each too long on one side", 0, () -> sides.bound());
    }

    private static void ats() {
        sentence("Promise 11");
        PackingSearch x = new PackingSearch(2, 3, 3);
        x.piece(2, 3, 1, 0);
        x.piece(2, 1, 2, 0);
        x.piece(2, 2, 1, 0);
        x.turn(2, 2);
        due("before a search", -1, () -> x.at(0, 0));
        x.solve(3000);
        int[][] want = {{0, 0, 0, 2, 3, 1, 0}, {0, 0, 1, 2, 1, 2, 0}, {0, 1, 1, 2, 2, 1, 0}};
        for (int piece = 0; piece < 3; piece++) {
            for (int what = 0; what <= 6; what++) {
                int p = piece;
                int w = what;
                due("at(" + p + ", " + w + ")", want[p][w], () -> x.at(p, w));
            }
        }
        refused("what -1", RANGE, () -> x.at(0, -1));
        refused("what 7", RANGE, () -> x.at(0, 7));
        refused("piece 3", NO_PIECE, () -> x.at(3, 0));
        refused("piece -1, what 7", NO_PIECE, () -> x.at(-1, 7));
        x.piece(1, 1, 1, 0);
        due("a piece that came behind the search", -1, () -> x.at(3, 0));
        refused("what 7 of it", RANGE, () -> x.at(3, 7));
        x.close();
        due("behind close", -1, () -> x.at(0, 3));
    }

    private static void overs() {
        sentence("Promise 12");
        PackingSearch x = new PackingSearch(2, 2, 3);
        x.piece(2, 1, 1, 0);
        x.piece(1, 2, 1, 0);
        x.piece(2, 1, 1, 0);
        x.piece(8, 8, 8, 0);
        refused("before a search", STATE, () -> x.over(0, 1));
        x.solve(3000);
        due("0 at z", 0, () -> x.at(0, 2));
        due("1 at z", 1, () -> x.at(1, 2));
        due("2 at y", 1, () -> x.at(2, 1));
        yes("the upper and the lower", () -> x.over(1, 0));
        yes("the lower and the upper", () -> x.over(0, 1));
        no("sides that touch are no common area", () -> x.over(0, 2));
        no("and the other way", () -> x.over(2, 0));
        refused("a piece and itself", STATE, () -> x.over(0, 0));
        refused("one that is not in the plan", STATE, () -> x.over(0, 3));
        refused("that one first", STATE, () -> x.over(3, 0));
        refused("that one and itself", STATE, () -> x.over(3, 3));
        refused("no such piece", NO_PIECE, () -> x.over(4, 0));
        refused("no such other", NO_PIECE, () -> x.over(0, 4));
        refused("not in the plan, no such other", NO_PIECE, () -> x.over(3, -1));
        refused("no such piece and itself", NO_PIECE, () -> x.over(-1, -1));
        overFarAbove();
    }

    private static void overFarAbove() {
        PackingSearch x = new PackingSearch(2, 1, 3);
        x.piece(2, 1, 1, 0);
        x.piece(2, 1, 1, 0);
        x.piece(2, 1, 1, 0);
        x.solve(3000);
        yes("over, but not standing on it", () -> x.over(2, 0));
        PackingSearch row = new PackingSearch(2, 1, 1);
        row.piece(1, 1, 1, 0);
        row.piece(1, 1, 1, 0);
        row.solve(3000);
        no("touching in x", () -> row.over(0, 1));
    }

    private static void supports() {
        sentence("Promise 13");
        PackingSearch x = new PackingSearch(3, 1, 2);
        x.piece(1, 1, 1, 0);
        x.piece(1, 1, 1, 0);
        x.piece(3, 1, 1, 0);
        refused("before a search", AREA, () -> x.support(0));
        x.solve(3000);
        due("at the bottom", 100, () -> x.support(0));
        due("on two of three, rests are dropped", 66, () -> x.support(2));
        refused("no such piece", NO_PIECE, () -> x.support(3));
        refused("piece -1", NO_PIECE, () -> x.support(-1));
        x.piece(1, 1, 1, 0);
        refused("not in the plan", AREA, () -> x.support(3));
        x.close();
        refused("behind close", AREA, () -> x.support(0));
        PackingSearch corner = new PackingSearch(2, 2, 2);
        corner.piece(2, 1, 1, 0);
        corner.piece(1, 2, 1, 0);
        corner.solve(3000);
        due("half on it", 50, () -> corner.support(1));
        PackingSearch flying = withOneFlying();
        flying.solve(3000);
        due("its place x", 1, () -> flying.at(2, 0));
        due("its place z", 2, () -> flying.at(2, 2));
        due("nothing under it", 0, () -> flying.support(2));
        due("nor is it borne", 0, () -> flying.bears(1));
        PackingSearch late = new PackingSearch(2, 2, 2);
        late.piece(1, 1, 1, 5);
        late.piece(2, 2, 1, 5);
        late.piece(2, 1, 1, 0);
        due("a wall comes below the roof", 7, () -> late.solve(3000));
        due("the roof's height", 1, () -> late.at(1, 2));
        due("the wall's place", 1, () -> late.at(2, 1));
        due("the roof's support by both", 75, () -> late.support(1));
    }

    private static void bearings() {
        sentence("Promise 14");
        PackingSearch x = new PackingSearch(2, 1, 4);
        x.piece(2, 1, 1, 1);
        x.piece(1, 1, 1, 2);
        x.piece(1, 1, 1, 4);
        x.piece(2, 1, 1, 8);
        x.piece(2, 1, 1, 16);
        refused("before a search", STATE, () -> x.bears(0));
        x.solve(3000);
        due("all are in", 5, () -> x.count(1));
        due("the floor bears each once", 30, () -> x.bears(0));
        due("a wall", 24, () -> x.bears(1));
        due("the other wall", 24, () -> x.bears(2));
        due("the ceiling", 16, () -> x.bears(3));
        due("the top", 0, () -> x.bears(4));
        x.limit(0, 0);
        due("the plan behind limit", 30, () -> x.bears(0));
        refused("no such piece", NO_PIECE, () -> x.bears(5));
        refused("piece -1", NO_PIECE, () -> x.bears(-1));
        x.piece(1, 1, 1, 1);
        refused("not in the plan", STATE, () -> x.bears(5));
        x.close();
        refused("behind close", STATE, () -> x.bears(0));
        PackingSearch high = tower(6, 100);
        high.solve(3000);
        due("five of a hundred", 500, () -> high.bears(0));
        due("from the middle", 300, () -> high.bears(2));
        PackingSearch turned = new PackingSearch(1, 1, 6);
        for (int i = 0; i < 6; i++) {
            turned.piece(1, 1, 1, 1 << i);
            turned.rank(i, 9 - i);
        }
        turned.solve(3000);
        due("downward numbers: the lowest bears all", 31, () -> turned.bears(5));
        due("and the next", 15, () -> turned.bears(4));
        PackingSearch middle = tower(3, 10);
        middle.rank(0, 1);
        middle.rank(2, 2);
        middle.limit(1, 20);
        due("0 stands between 1 and 2", 3, () -> middle.solve(3000));
        due("1 bears both", 20, () -> middle.bears(1));
        middle.limit(1, 19);
        due("and now it can't", 2, () -> middle.solve(3000));
    }

    private static void cells() {
        sentence("Promise 15");
        PackingSearch x = new PackingSearch(3, 2, 2);
        x.piece(2, 2, 1, 0);
        x.piece(1, 1, 2, 0);
        x.solve(3000);
        int[][] want = {{0, 0, 0, 0}, {1, 1, 0, 0}, {2, 0, 0, 1}, {2, 1, 0, -1}, {2, 0, 1, 1}, {1, 1, 1, -1}, {0, 0, 1, -1}};
        for (int[] w : want) {
            due("cell(" + w[0] + ", " + w[1] + ", " + w[2] + ")", w[3], () -> x.cell(w[0], w[1], w[2]));
        }
        int[][] none = {{-1, 0, 0}, {3, 0, 0}, {0, -1, 0}, {0, 2, 0}, {0, 0, -1}, {0, 0, 2},
            {MIN, 0, 0}, {0, MAX, 0}, {0, 0, MIN}};
        for (int[] n : none) {
            refused("cell(" + n[0] + ", " + n[1] + ", " + n[2] + ")", NO_CELL,
                    () -> x.cell(n[0], n[1], n[2]));
        }
        x.close();
        due("behind close", -1, () -> x.cell(0, 0, 0));
    }

    private static void closes() {
        sentence("Promise 16");
        PackingSearch x = new PackingSearch(1, 1, 1);
        refused("no plan", STATE, () -> x.close());
        x.piece(1, 1, 1, 3);
        x.piece(1, 1, 1, 4);
        x.piece(2, 1, 1, 5);
        refused("no search yet", STATE, () -> x.close());
        x.solve(3000);
        due("the first box", 0, () -> x.close());
        refused("the plan is empty now", STATE, () -> x.close());
        due("one packed", 2, () -> x.count(2));
        due("the next box has room", 1, () -> x.solve(3000));
        due("the packed one is not in it", -1, () -> x.at(0, 0));
        due("the other one is", 0, () -> x.at(1, 0));
        x.solve(0);
        refused("a search without a plan", STATE, () -> x.close());
        x.solve(3000);
        due("the second box", 1, () -> x.close());
        due("nothing fits any more", 0, () -> x.solve(3000));
        refused("an empty plan", STATE, () -> x.close());
        due("boxes", 2, () -> x.count(3));
    }

    private static void boxes() {
        sentence("Promise 17");
        PackingSearch x = new PackingSearch(2, 1, 1);
        x.piece(2, 1, 1, 0);
        x.piece(1, 1, 1, 0);
        x.piece(1, 1, 1, 0);
        due("before", -1, () -> x.box(0));
        x.solve(3000);
        due("in the plan is not packed", -1, () -> x.box(0));
        x.close();
        x.solve(3000);
        x.close();
        due("box of 0", 0, () -> x.box(0));
        due("box of 1", 1, () -> x.box(1));
        due("box of 2", 1, () -> x.box(2));
        refused("no such piece", NO_PIECE, () -> x.box(3));
        refused("piece -1", NO_PIECE, () -> x.box(-1));
        refused("least piece", NO_PIECE, () -> x.box(MIN));
        x.piece(1, 1, 1, 0);
        due("box of a new piece", -1, () -> x.box(3));
    }

    private static void counts() {
        sentence("Promise 18");
        PackingSearch x = new PackingSearch(2, 2, 8);
        x.piece(2, 2, 1, 3);
        x.piece(2, 1, 2, 5);
        x.piece(3, 3, 3, 90);
        x.piece(2, 2, 4, 20);
        x.limit(1, 0);
        x.solve(3000);
        countsAre(x, new int[] {4, 2, 4, 0, 20, 23, 5});
        x.close();
        countsAre(x, new int[] {4, 0, 2, 1, 0, 0, 0});
        x.solve(3000);
        countsAre(x, new int[] {4, 1, 2, 1, 4, 5, 2});
        due("what -1", -1, () -> x.count(-1));
        due("what 7", -1, () -> x.count(7));
        due("least what", -1, () -> x.count(MIN));
        due("greatest what", -1, () -> x.count(MAX));
    }

    private static void countsAre(PackingSearch x, int[] want) {
        for (int what = 0; what < want.length; what++) {
            int w = what;
            due("count(" + w + ")", want[w], () -> x.count(w));
        }
    }
}
