/**
 * Promises 1 to 18: each sentence that names a boundary has a method of its own, which looks at both
 * sides of it. What refuses which call, and which refusal comes first, is RefusalsTest's.
 */
public final class EdgesTest extends Checks {
    private static final int[] CELL = p(1, 1, 1, 1);

    public static void main(String[] args) {
        anEmptyBox();
        noPieces();
        numbersOfPieces();
        howManyWays();
        turnsOfOnePiece();
        limitOfOnePiece();
        rankAmongThoseNotPacked();
        rankOfAPackedPiece();
        shareOfTheNextSearch();
        stepsOfASearch();
        volumeOfTheBestPlan();
        emptyPlanIfNoneWasLookedAt();
        exactBeforeASearch();
        exactOfTheLastSearch();
        stepsBeforeASearch();
        stepsOfTheLastSearch();
        boundByTheBox();
        boundWithoutPackedPieces();
        boundByTheEmptyBox();
        boundByWaysThatAreLet();
        placeSidesAndWay();
        atOfAPieceNotInThePlan();
        commonAreaFromAbove();
        overOfOneNotInThePlan();
        overOfTheSame();
        supportInHundredths();
        supportOfAPieceNotInThePlan();
        bearsInThePlan();
        bearsOfAPieceNotInThePlan();
        cellsOfThePlan();
        noSuchCell();
        closedBoxNumbers();
        piecesOfThePlanArePacked();
        nextBoxIsEmpty();
        closeWithoutAPlan();
        boxOfAPiece();
        countsOfAnEmptyPlan();
        countsOfAPlan();
        heightOfThePlan();
        countOfAnotherWhat();
        end();
    }

    /** 0 is packed into box 0, 1 and 2 are in the plan, 3 came behind the search, 4 is too long. */
    private static PackingSearch inAllStates() {
        PackingSearch x = packing(2, 1, 1, p(2, 1, 1, 10), CELL, CELL);
        x.solve(3000);
        x.close();
        x.solve(3000);
        x.piece(1, 1, 1, 1);
        x.piece(3, 1, 1, 1);
        return x;
    }

    private static void anEmptyBox() {
        sentence("Promise 1: An empty box of this width, depth and height");
        PackingSearch x = new PackingSearch(3, 4, 5);
        cellsAre(x, 3, 4, 5, (a, b, c) -> -1);
        PackingSearch full = packing(3, 4, 5, p(3, 4, 5, 0));
        due("a piece of its sides", 60, () -> full.solve(3000));
        for (int[] longer : new int[][] {{4, 4, 5}, {3, 5, 5}, {3, 4, 6}}) {
            PackingSearch y = packing(3, 4, 5, p(longer[0], longer[1], longer[2], 0));
            due("a piece longer by one", 0, () -> y.solve(3000));
        }
    }

    private static void noPieces() {
        sentence("Promise 1: no pieces");
        PackingSearch x = new PackingSearch(3, 4, 5);
        for (int what = 0; what <= 6; what++) {
            int asked = what;
            due("count(" + what + ")", 0, () -> x.count(asked));
        }
        for (int piece = -1; piece <= 6; piece++) {
            int asked = piece;
            refused("box(" + piece + ")", NO_PIECE, () -> x.box(asked));
        }
        due("bound", 0, () -> x.bound());
        due("solve", 0, () -> x.solve(3000));
        due("its steps", 0, () -> x.steps());
        yes("it did all", () -> x.exact());
        due("the first piece's number", 0, () -> x.piece(1, 1, 1, 1));
    }

    private static void numbersOfPieces() {
        sentence("Promise 2: A piece: its number");
        PackingSearch x = new PackingSearch(8, 8, 8);
        for (int i = 0; i < 6; i++) {
            int number = i;
            refused("before piece " + i, NO_PIECE, () -> x.box(number));
            refused("a wrong one", RANGE, () -> x.piece(0, 1, 1, 1));
            refused("a wrong one", RANGE, () -> x.piece(1, 1, 1, 101));
            due("piece " + i, number, () -> x.piece(number + 1, 1, 1, number));
            due("it is there", -1, () -> x.box(number));
            due("pieces", number + 1, () -> x.count(0));
        }
        x.solve(3000);
        for (int i = 0; i < 6; i++) {
            int number = i;
            due("its own width", number + 1, () -> x.at(number, 3));
        }
    }

    private static void howManyWays() {
        sentence("Promise 3: how many ways it has");
        PackingSearch x = packing(1, 1, 1, p(1, 2, 3, 0), p(8, 8, 8, 0), p(7, 8, 8, 0), p(8, 7, 8, 0), p(8, 8, 7, 0));
        int[][] want = {{1, 2, 3, 6}, {1, 1, 1, 1}, {1, 2, 2, 3}, {1, 2, 3, 3}, {1, 1, 2, 3}};
        for (int round = 0; round < 2; round++) {
            for (int piece = 0; piece < want.length; piece++) {
                for (int marks = 3; marks >= 0; marks--) {
                    int told = piece;
                    int turned = marks;
                    due("turn(" + piece + ", " + marks + ")", want[piece][marks], () -> x.turn(told, turned));
                }
            }
        }
        PackingSearch packed = packing(3, 3, 3, p(1, 2, 3, 0));
        packed.solve(3000);
        due("of a piece in the plan", 6, () -> packed.turn(0, 3));
        due("which still stands as it stood", 0, () -> packed.at(0, 6));
        packed.close();
        due("of a packed piece", 3, () -> packed.turn(0, 2));
    }

    private static void turnsOfOnePiece() {
        sentence("Promise 3: A piece's marks");
        PackingSearch x = packing(2, 1, 1, p(1, 2, 1, 0), p(1, 2, 1, 0));
        x.turn(1, 1);
        due("the one that may be turned", 2, () -> x.solve(3000));
        due("it is in", 1, () -> x.at(1, 6));
        due("the other one is not", -1, () -> x.at(0, 6));
        x.turn(0, 1);
        x.turn(1, 0);
        x.solve(3000);
        due("now the other one is", 1, () -> x.at(0, 6));
        due("and it is not", -1, () -> x.at(1, 6));
        x.turn(1, 1);
        x.close();
        due("marks outlast a box", 2, () -> x.solve(3000));
    }

    private static void limitOfOnePiece() {
        sentence("Promise 4: A piece's limit");
        PackingSearch x = packing(1, 1, 3, p(1, 1, 1, 5), p(1, 1, 1, 5), p(1, 1, 1, 5));
        x.limit(1, 5);
        due("1 bears one", 3, () -> x.solve(3000));
        x.limit(1, 4);
        due("the plan stays until a search", 3, () -> x.count(4));
        due("1 bears none", 2, () -> x.solve(3000));
        x.limit(1, 1000);
        x.limit(2, 0);
        due("2 bears none, and need not", 3, () -> x.solve(3000));
        x.close();
        x.limit(0, 0);
        due("a packed piece's limit may be told", 0, () -> x.box(0));
        PackingSearch later = packing(1, 1, 2, p(1, 1, 2, 1), CELL, CELL);
        later.limit(1, 0);
        later.solve(3000);
        later.close();
        due("a limit outlasts a box", 1, () -> later.solve(3000));
        later.limit(1, 1);
        due("and is told again", 2, () -> later.solve(3000));
    }

    private static void rankAmongThoseNotPacked() {
        sentence("Promise 5: which it has in the order of all pieces that are not packed (0, 1, ..)");
        PackingSearch x = packing(1, 1, 1, CELL, CELL, CELL, CELL, CELL, CELL);
        for (int i = 0; i < 6; i++) {
            int piece = i;
            due("rank(" + i + ", 0)", piece, () -> x.rank(piece, 0));
        }
        for (int rank = 9; rank >= 0; rank--) {
            int told = rank;
            due("rank(0, " + rank + ")", rank == 0 ? 0 : 5, () -> x.rank(0, told));
        }
        x.rank(0, 9);
        x.solve(3000);
        due("one in the plan still counts", 4, () -> x.rank(5, 0));
        x.close();
        due("one that is packed does not", 3, () -> x.rank(5, 0));
        due("the first is 0 again", 0, () -> x.rank(2, 0));
    }

    private static void rankOfAPackedPiece() {
        sentence("Promise 5: -1 if it is packed");
        PackingSearch x = inAllStates();
        for (int rank = 0; rank <= 9; rank++) {
            int told = rank;
            due("of a packed piece", -1, () -> x.rank(0, told));
        }
        due("of one in the plan", 0, () -> x.rank(1, 0));
        due("of one that is neither", 2, () -> x.rank(3, 0));
    }

    private static void shareOfTheNextSearch() {
        sentence("Promise 6: The share");
        PackingSearch x = packing(2, 1, 2, CELL, p(2, 1, 1, 1));
        x.share(50);
        due("half is half", 3, () -> x.solve(3000));
        x.share(51);
        due("the plan stays until a search", 3, () -> x.count(4));
        due("half is less", 2, () -> x.solve(3000));
        x.close();
        due("the other one alone", 1, () -> x.solve(3000));
        x.close();
        x.piece(1, 1, 1, 0);
        x.piece(2, 1, 1, 0);
        due("the share outlasts a box", 2, () -> x.solve(3000));
    }

    private static void stepsOfASearch() {
        sentence("Promise 7: A search of so many steps (0 .. 3000)");
        PackingSearch x = packing(8, 8, 8, CELL, CELL, CELL, CELL, CELL, CELL);
        for (int steps : new int[] {0, 1, 2999, 3000}) {
            x.solve(steps);
            due("solve(" + steps + ")", steps, () -> x.steps());
        }
        for (int steps : new int[] {MIN, -2, -1, 3001, 3002, MAX}) {
            refused("solve(" + steps + ")", RANGE, () -> x.solve(steps));
            due("its steps", 3000, () -> x.steps());
            due("the plan", 6, () -> x.count(4));
        }
    }

    private static void volumeOfTheBestPlan() {
        sentence("Promise 7: the volume of the best plan, which is the plan now");
        PackingSearch x = packing(8, 8, 8, p(8, 8, 8, 100));
        due("the greatest one", 512, () -> x.solve(1));
        due("is the plan", 512, () -> x.count(4));
        PackingSearch least = packing(1, 1, 1, CELL);
        due("the least one", 1, () -> least.solve(1));
        PackingSearch none = packing(1, 1, 1, p(2, 1, 1, 0));
        due("none fits", 0, () -> none.solve(3000));
        due("the plan is empty", 0, () -> none.count(1));
        PackingSearch late = new PackingSearch(2, 1, 1);
        due("no pieces", 0, () -> late.solve(3000));
        late.piece(1, 1, 1, 0);
        due("a piece more, no search", 0, () -> late.count(4));
        due("a search more", 1, () -> late.solve(3000));
        late.piece(2, 1, 1, 0);
        due("a greater one", 2, () -> late.solve(3000));
        due("and the other one is out", -1, () -> late.at(0, 0));
    }

    private static void emptyPlanIfNoneWasLookedAt() {
        sentence("Promise 7: an empty one, 0, if none was looked at");
        PackingSearch x = packing(1, 1, 1, CELL, CELL);
        due("a plan", 1, () -> x.solve(9));
        due("none was looked at", 0, () -> x.solve(8));
        for (int what : new int[] {1, 4, 5, 6}) {
            due("count(" + what + ")", 0, () -> x.count(what));
        }
        due("at(0, 0)", -1, () -> x.at(0, 0));
        due("cell(0, 0, 0)", -1, () -> x.cell(0, 0, 0));
        refused("close()", STATE, () -> x.close());
        due("a plan again", 1, () -> x.solve(9));
        due("cell(0, 0, 0) again", 0, () -> x.cell(0, 0, 0));
    }

    private static void exactBeforeASearch() {
        sentence("Promise 8: false before one");
        PackingSearch x = new PackingSearch(1, 1, 1);
        no("of a new object", () -> x.exact());
        x.piece(1, 1, 1, 1);
        no("with a piece", () -> x.exact());
        refused("a search that is none", RANGE, () -> x.solve(-1));
        no("behind a refused one", () -> x.exact());
        x.solve(1);
        yes("behind one", () -> x.exact());
    }

    private static void exactOfTheLastSearch() {
        sentence("Promise 8: Whether the last search did all");
        PackingSearch x = packing(1, 1, 1, CELL);
        x.solve(1);
        yes("just as many steps as needed", () -> x.exact());
        x.solve(0);
        no("one less", () -> x.exact());
        x.solve(2);
        yes("one more", () -> x.exact());
        refused("a search that is none", RANGE, () -> x.solve(3001));
        yes("behind a refused one", () -> x.exact());
        x.piece(1, 1, 1, 1);
        yes("behind a piece", () -> x.exact());
        x.solve(9);
        no("the last trial is missing", () -> x.exact());
        due("though the plan is there", 0, () -> x.close());
        no("behind close", () -> x.exact());
        x.solve(1);
        yes("the one that is left", () -> x.exact());
        x.close();
        yes("behind the second close", () -> x.exact());
        x.solve(0);
        yes("nothing is left", () -> x.exact());
    }

    private static void stepsBeforeASearch() {
        sentence("Promise 9: 0 before one");
        PackingSearch x = new PackingSearch(1, 1, 1);
        due("of a new object", 0, () -> x.steps());
        x.piece(1, 1, 1, 1);
        refused("a search that is none", RANGE, () -> x.solve(3001));
        due("behind a refused one", 0, () -> x.steps());
        x.solve(3000);
        due("behind one", 1, () -> x.steps());
    }

    private static void stepsOfTheLastSearch() {
        sentence("Promise 9: The steps of the last search");
        PackingSearch x = packing(1, 1, 1, CELL, CELL);
        for (int steps = 0; steps <= 12; steps++) {
            x.solve(steps);
            due("solve(" + steps + ")", Math.min(steps, 10), () -> x.steps());
        }
        refused("a search that is none", RANGE, () -> x.solve(-1));
        due("behind a refused one", 10, () -> x.steps());
        x.close();
        due("behind close", 10, () -> x.steps());
        x.solve(3000);
        due("of one piece", 1, () -> x.steps());
    }

    private static void boundByTheBox() {
        sentence("Promise 10: the box's, or, if that is less, that of all pieces");
        PackingSearch x = packing(2, 2, 2, p(2, 2, 1, 0), p(2, 1, 1, 0), CELL);
        due("less by one", 7, () -> x.bound());
        x.piece(1, 1, 1, 0);
        due("as much", 8, () -> x.bound());
        x.piece(1, 1, 1, 0);
        due("more by one", 8, () -> x.bound());
        x.piece(2, 2, 2, 0);
        due("more by nine", 8, () -> x.bound());
        PackingSearch most = new PackingSearch(8, 8, 8);
        for (int i = 0; i < 6; i++) {
            most.piece(8, 8, 8, 0);
            due("the greatest box", 512, () -> most.bound());
        }
    }

    private static void boundWithoutPackedPieces() {
        sentence("Promise 10: that of all pieces that are not packed");
        PackingSearch x = packing(4, 1, 1, p(2, 1, 1, 0), CELL);
        due("before a search", 3, () -> x.bound());
        x.solve(3000);
        due("those of the plan count", 3, () -> x.bound());
        x.piece(1, 1, 1, 0);
        due("with one more", 4, () -> x.bound());
        x.close();
        due("packed ones don't", 1, () -> x.bound());
        x.solve(3000);
        x.close();
        due("none is left", 0, () -> x.bound());
    }

    private static void boundByTheEmptyBox() {
        sentence("Promise 10: and would fit into the empty box");
        int[][] fits = {{2, 1, 1}, {1, 3, 1}, {1, 1, 4}, {2, 3, 4}};
        int[][] sticksOut = {{3, 1, 1}, {1, 4, 1}, {1, 1, 5}, {3, 3, 4}, {2, 4, 4}, {2, 3, 5}, {8, 8, 8}};
        for (int[] s : fits) {
            PackingSearch x = packing(2, 3, 4, p(s[0], s[1], s[2], 0));
            due("as long as the box", s[0] * s[1] * s[2], () -> x.bound());
        }
        for (int[] s : sticksOut) {
            PackingSearch x = packing(2, 3, 4, p(s[0], s[1], s[2], 0));
            due("longer on a side", 0, () -> x.bound());
        }
        PackingSearch full = packing(2, 1, 1, CELL, CELL, CELL);
        due("before the box is full", 2, () -> full.bound());
        full.solve(3000);
        due("the empty box counts, not the full one", 2, () -> full.bound());
        PackingSearch limited = packing(1, 1, 2, CELL, CELL);
        limited.limit(0, 0);
        limited.limit(1, 0);
        limited.share(100);
        due("limits and shares don't count", 2, () -> limited.bound());
    }

    private static void boundByWaysThatAreLet() {
        sentence("Promise 10: in a way that is let");
        PackingSearch x = packing(3, 2, 1, p(1, 2, 3, 0));
        int[] want = {0, 0, 0, 6};
        for (int marks = 0; marks <= 3; marks++) {
            x.turn(0, marks);
            due("marks " + marks, want[marks], () -> x.bound());
        }
        PackingSearch one = packing(2, 1, 3, p(1, 2, 3, 0), p(1, 2, 3, 0));
        one.turn(1, 1);
        due("of two the one that may be turned", 6, () -> one.bound());
    }

    private static void placeSidesAndWay() {
        sentence("Promise 11: 0, 1, 2 its place x, y, z; 3, 4, 5 its width, depth, height there; 6 its way");
        PackingSearch x = packing(5, 6, 7, p(2, 6, 7, 0), p(1, 2, 3, 0), p(4, 3, 4, 0));
        x.turn(1, 3);
        x.turn(2, 3);
        x.solve(3000);
        placeIs("the first", x, 0, 0, 0, 0, 2, 6, 7, 0);
        placeIs("beside it", x, 1, 2, 0, 0, 1, 2, 3, 0);
        placeIs("turned", x, 2, 2, 2, 0, 3, 4, 4, 1);
        for (int piece = 0; piece < 3; piece++) {
            for (int what : new int[] {MIN, -2, -1, 7, 8, MAX}) {
                int asked = piece;
                refused("at(" + piece + ", " + what + ")", RANGE, () -> x.at(asked, what));
            }
        }
    }

    private static void atOfAPieceNotInThePlan() {
        sentence("Promise 11: -1 if it is not in the plan");
        PackingSearch x = inAllStates();
        int[] want = {-1, 0, 1, -1, -1};
        for (int what = 0; what <= 6; what++) {
            for (int piece : new int[] {0, 3, 4}) {
                int asked = what;
                due("at(" + piece + ", " + what + ")", -1, () -> x.at(piece, asked));
            }
        }
        for (int piece = 0; piece < want.length; piece++) {
            int asked = piece;
            due("at(" + piece + ", 0)", want[piece], () -> x.at(asked, 0));
        }
        x.solve(0);
        due("behind a search without a plan", -1, () -> x.at(1, 0));
    }

    private static void commonAreaFromAbove() {
        sentence("Promise 12: Whether two pieces of the plan have a common area, seen from above");
        // Four walls in a square and a roof over the first two: it touches the others along its side.
        PackingSearch x = packing(2, 2, 3, CELL, CELL, CELL, CELL, p(2, 1, 1, 1), p(1, 2, 1, 1));
        x.solve(3000);
        placeIs("the roof", x, 4, 0, 0, 1);
        placeIs("the top", x, 5, 0, 0, 2);
        boolean[][] want = {
            {false, false, false, false, true, true}, {false, false, false, false, true, false},
            {false, false, false, false, false, true}, {false, false, false, false, false, false},
            {true, true, false, false, false, true}, {true, false, true, false, true, false},
        };
        for (int one = 0; one < 6; one++) {
            for (int two = 0; two < 6; two++) {
                int a = one;
                int b = two;
                if (a != b) {
                    due("over(" + a + ", " + b + ")", want[a][b] ? 1 : 0, () -> x.over(a, b) ? 1 : 0);
                }
            }
        }
    }

    private static void overOfOneNotInThePlan() {
        sentence("Promise 12: IllegalStateException: one is not in the plan");
        PackingSearch x = inAllStates();
        no("both are", () -> x.over(1, 2));
        no("the other way round", () -> x.over(2, 1));
        for (int out : new int[] {0, 3, 4}) {
            refused("over(" + out + ", 1)", STATE, () -> x.over(out, 1));
            refused("over(1, " + out + ")", STATE, () -> x.over(1, out));
            refused("over(" + out + ", 2)", STATE, () -> x.over(out, 2));
        }
        refused("neither is", STATE, () -> x.over(3, 4));
        x.close();
        refused("they are packed", STATE, () -> x.over(1, 2));
    }

    private static void overOfTheSame() {
        sentence("Promise 12: IllegalStateException: or they are the same");
        PackingSearch x = inAllStates();
        for (int piece = 0; piece < 5; piece++) {
            int asked = piece;
            refused("over(" + piece + ", " + piece + ")", STATE, () -> x.over(asked, asked));
        }
    }

    private static void supportInHundredths() {
        sentence("Promise 13: A hundred times a piece's support divided by its area in the plan (rests are dropped)");
        for (int roof = 1; roof <= 8; roof++) {
            for (int wall = 1; wall <= roof; wall++) {
                PackingSearch x = packing(roof, 1, 2, p(wall, 1, 1, 0), p(roof, 1, 1, 0));
                x.solve(3000);
                int want = wall * 100 / roof;
                due(wall + " of " + roof, want, () -> x.support(1));
                due("at the bottom", 100, () -> x.support(0));
            }
        }
        PackingSearch wide = packing(8, 8, 2, p(8, 7, 1, 0), p(7, 1, 1, 0), p(8, 8, 1, 0));
        wide.solve(3000);
        due("63 of 64", 98, () -> wide.support(2));
        PackingSearch turned = packing(2, 3, 2, p(2, 1, 1, 0), p(3, 2, 1, 0));
        turned.turn(1, 1);
        turned.solve(3000);
        due("its area there", 33, () -> turned.support(1));
        turned.turn(1, 0);
        due("the plan stays", 33, () -> turned.support(1));
    }

    private static void supportOfAPieceNotInThePlan() {
        sentence("Promise 13: ArithmeticException (the machine's own): it is not in the plan");
        PackingSearch x = inAllStates();
        due("in the plan", 100, () -> x.support(1));
        due("in the plan", 100, () -> x.support(2));
        for (int out : new int[] {0, 3, 4}) {
            refused("support(" + out + ")", AREA, () -> x.support(out));
        }
        x.solve(0);
        refused("behind a search without a plan", AREA, () -> x.support(1));
        x.solve(3000);
        due("in the plan again", 100, () -> x.support(1));
        x.close();
        refused("behind close", AREA, () -> x.support(1));
        PackingSearch fresh = packing(1, 1, 1, CELL);
        refused("before a search", AREA, () -> fresh.support(0));
    }

    private static void bearsInThePlan() {
        sentence("Promise 14: The weights that a piece bears in the plan");
        PackingSearch x = packing(1, 1, 3, p(1, 1, 1, 100), p(1, 1, 1, 0), p(1, 1, 1, 1));
        x.solve(3000);
        due("the lowest", 1, () -> x.bears(0));
        due("the middle", 1, () -> x.bears(1));
        due("the highest bears none", 0, () -> x.bears(2));
        x.limit(0, 0);
        due("the plan stays", 1, () -> x.bears(0));
        x.solve(3000);
        due("its limit", 0, () -> x.bears(0));
        due("one with no weight is on it", 2, () -> x.count(1));
    }

    private static void bearsOfAPieceNotInThePlan() {
        sentence("Promise 14: IllegalStateException: it is not in the plan");
        PackingSearch x = inAllStates();
        due("in the plan", 0, () -> x.bears(1) + x.bears(2));
        for (int out : new int[] {0, 3, 4}) {
            refused("bears(" + out + ")", STATE, () -> x.bears(out));
        }
        x.solve(0);
        refused("behind a search without a plan", STATE, () -> x.bears(1));
        x.solve(3000);
        due("in the plan again", 0, () -> x.bears(1));
        x.close();
        refused("behind close", STATE, () -> x.bears(1));
        PackingSearch fresh = packing(1, 1, 1, CELL);
        refused("before a search", STATE, () -> fresh.bears(0));
    }

    private interface CellOwner {
        int of(int x, int y, int z);
    }

    private static void cellsAre(PackingSearch x, int width, int depth, int height, CellOwner owner) {
        for (int a = 0; a < width; a++) {
            for (int b = 0; b < depth; b++) {
                for (int c = 0; c < height; c++) {
                    int cx = a;
                    int cy = b;
                    int cz = c;
                    due("cell(" + a + ", " + b + ", " + c + ")", owner.of(a, b, c), () -> x.cell(cx, cy, cz));
                }
            }
        }
    }

    private static void cellsOfThePlan() {
        sentence("Promise 15: The piece of the plan in a cell of the box; -1 if it is empty");
        PackingSearch x = packing(4, 3, 3, p(2, 2, 2, 0), p(1, 3, 1, 0), p(4, 1, 1, 0));
        cellsAre(x, 4, 3, 3, (a, b, c) -> -1);
        x.solve(3000);
        placeIs("the second", x, 1, 2, 0, 0);
        placeIs("the third", x, 2, 0, 2, 1);
        CellOwner owner = (a, b, c) -> a < 2 && b < 2 && c < 2 ? 0 : a == 2 && c < 1 ? 1 : b == 2 && c == 1 ? 2 : -1;
        cellsAre(x, 4, 3, 3, owner);
        x.close();
        cellsAre(x, 4, 3, 3, (a, b, c) -> -1);
        PackingSearch full = packing(8, 8, 8, p(8, 8, 8, 0));
        full.solve(3000);
        cellsAre(full, 8, 8, 8, (a, b, c) -> 0);
    }

    private static void noSuchCell() {
        sentence("Promise 15: ArrayIndexOutOfBoundsException (the machine's own): there is no such cell");
        int[] outside = {MIN, -1000, -9, -1};
        int[][] boxes = {{1, 1, 1}, {3, 4, 5}, {5, 4, 3}, {8, 8, 8}};
        for (int[] box : boxes) {
            PackingSearch x = packing(box[0], box[1], box[2], p(1, 1, 1, 0));
            x.solve(3000);
            due("the first cell", 0, () -> x.cell(0, 0, 0));
            due("the last", box[0] == 1 ? 0 : -1, () -> x.cell(box[0] - 1, box[1] - 1, box[2] - 1));
            for (int n : outside) {
                noneBeyond(x, n, n, n);
            }
            noneBeyond(x, box[0], box[1], box[2]);
            noneBeyond(x, box[0] + 1, box[1] + 1, box[2] + 1);
            noneBeyond(x, MAX, MAX, MAX);
        }
    }

    private static void noneBeyond(PackingSearch x, int a, int b, int c) {
        refused("cell(" + a + ", 0, 0)", NO_CELL, () -> x.cell(a, 0, 0));
        refused("cell(0, " + b + ", 0)", NO_CELL, () -> x.cell(0, b, 0));
        refused("cell(0, 0, " + c + ")", NO_CELL, () -> x.cell(0, 0, c));
        refused("cell(" + a + ", " + b + ", 0)", NO_CELL, () -> x.cell(a, b, 0));
        refused("cell(" + a + ", " + b + ", " + c + ")", NO_CELL, () -> x.cell(a, b, c));
    }

    private static void closedBoxNumbers() {
        sentence("Promise 16: the closed box's number (0, 1, ..)");
        PackingSearch x = packing(1, 1, 1, CELL, CELL, CELL, CELL, CELL, CELL);
        for (int i = 0; i < 6; i++) {
            int number = i;
            due("boxes before", number, () -> x.count(3));
            due("solve", 1, () -> x.solve(3000));
            due("close", number, () -> x.close());
            due("its piece", number, () -> x.box(number));
            due("boxes behind it", number + 1, () -> x.count(3));
        }
        due("all are packed", 0, () -> x.count(2));
        due("nothing is left", 0, () -> x.solve(3000));
        refused("a seventh box", STATE, () -> x.close());
    }

    private static void piecesOfThePlanArePacked() {
        sentence("Promise 16: the pieces of the plan are packed into it");
        PackingSearch x = packing(2, 1, 1, p(3, 1, 1, 0), CELL, p(2, 1, 1, 0), CELL);
        x.solve(3000);
        x.piece(1, 1, 1, 0);
        due("close", 0, () -> x.close());
        int[] first = {-1, 0, -1, 0, -1};
        for (int i = 0; i < first.length; i++) {
            int piece = i;
            due("box(" + i + ")", first[i], () -> x.box(piece));
        }
        x.solve(3000);
        due("close again", 1, () -> x.close());
        int[] second = {-1, 0, 1, 0, -1};
        for (int i = 0; i < second.length; i++) {
            int piece = i;
            due("box(" + i + ") then", second[i], () -> x.box(piece));
        }
    }

    private static void nextBoxIsEmpty() {
        sentence("Promise 16: the next box is empty, the plan too");
        PackingSearch x = packing(2, 2, 2, p(2, 2, 2, 9), p(2, 2, 2, 8));
        x.solve(3000);
        due("a full box", 0, () -> x.cell(1, 1, 1));
        x.close();
        cellsAre(x, 2, 2, 2, (a, b, c) -> -1);
        for (int what : new int[] {1, 4, 5, 6}) {
            due("count(" + what + ")", 0, () -> x.count(what));
        }
        due("there is room again, as much as before", 8, () -> x.solve(3000));
        due("for the other one", 1, () -> x.cell(1, 1, 1));
    }

    private static void closeWithoutAPlan() {
        sentence("Promise 16: IllegalStateException: no piece is in the plan");
        PackingSearch x = new PackingSearch(1, 1, 1);
        refused("a new object", STATE, () -> x.close());
        x.solve(3000);
        refused("a search without pieces", STATE, () -> x.close());
        x.piece(2, 1, 1, 0);
        x.solve(3000);
        refused("a search where none fits", STATE, () -> x.close());
        x.piece(1, 1, 1, 0);
        refused("a piece, but no search", STATE, () -> x.close());
        x.solve(1);
        refused("a search of too few steps", STATE, () -> x.close());
        due("no box was closed", 0, () -> x.count(3));
        x.solve(2);
        due("one piece in the plan", 0, () -> x.close());
        refused("the plan is empty again", STATE, () -> x.close());
        due("one box was closed", 1, () -> x.count(3));
    }

    private static void boxOfAPiece() {
        sentence("Promise 17: The box into which a piece was packed; -1 if it was not");
        PackingSearch x = inAllStates();
        int[] want = {0, -1, -1, -1, -1};
        for (int i = 0; i < want.length; i++) {
            int piece = i;
            due("box(" + i + ")", want[i], () -> x.box(piece));
        }
        x.close();
        due("the plan is packed", 1, () -> x.box(1));
        due("into one box", 1, () -> x.box(2));
        due("the first stays where it is", 0, () -> x.box(0));
        due("the others are not", -2, () -> x.box(3) + x.box(4));
    }

    private static void countsOfAnEmptyPlan() {
        sentence("Promise 18: 1 those in the plan, 4 the plan's volume, 5 its weight, 6 its height (0 if it is empty)");
        PackingSearch x = packing(8, 8, 8, p(8, 8, 8, 100));
        countsAre("before a search", x, 1, 0, 1, 0, 0, 0, 0);
        x.solve(0);
        countsAre("nothing was looked at", x, 1, 0, 1, 0, 0, 0, 0);
        x.solve(1);
        countsAre("a plan", x, 1, 1, 1, 0, 512, 100, 8);
        x.close();
        countsAre("behind close", x, 1, 0, 0, 1, 0, 0, 0);
    }

    private static void countsOfAPlan() {
        sentence("Promise 18: 0 pieces, 1 those in the plan, 2 those not packed, 3 boxes closed, "
                + "4 the plan's volume, 5 its weight");
        PackingSearch x = new PackingSearch(8, 1, 1);
        for (int i = 0; i < 6; i++) {
            countsAre("before piece " + i, x, i, 0, i, 0, 0, 0, 0);
            x.piece(1, 1, 1, 100);
        }
        x.solve(3000);
        countsAre("six in the plan", x, 6, 6, 6, 0, 6, 600, 1);
        x.close();
        countsAre("six packed", x, 6, 0, 0, 1, 0, 0, 0);
        countsAre("all states", inAllStates(), 5, 2, 4, 1, 2, 2, 1);
        PackingSearch light = packing(2, 2, 1, p(2, 1, 1, 0), p(1, 1, 1, 0));
        light.solve(3000);
        countsAre("no weights", light, 2, 2, 2, 0, 3, 0, 1);
    }

    private static void heightOfThePlan() {
        sentence("Promise 18: 6 its height");
        PackingSearch x = packing(2, 1, 8, p(1, 1, 5, 0), p(1, 1, 2, 0), p(1, 1, 2, 0));
        x.solve(3000);
        due("the highest end, not the last one's", 5, () -> x.count(6));
        PackingSearch up = packing(1, 1, 8, p(1, 1, 5, 0), p(1, 1, 2, 0));
        up.solve(3000);
        due("one on the other", 7, () -> up.count(6));
        up.piece(1, 1, 1, 0);
        up.solve(3000);
        due("as high as the box", 8, () -> up.count(6));
        PackingSearch lying = packing(8, 8, 8, p(1, 2, 3, 0));
        lying.solve(3000);
        due("its own height", 3, () -> lying.count(6));
    }

    private static void countOfAnotherWhat() {
        sentence("Promise 18: -1 for another what");
        PackingSearch x = inAllStates();
        for (int what : new int[] {MIN, -100, -2, -1, 7, 8, 100, MAX}) {
            due("count(" + what + ")", -1, () -> x.count(what));
        }
        due("the first what", 5, () -> x.count(0));
        due("the last what", 1, () -> x.count(6));
    }

    private static void countsAre(String what, PackingSearch x, int... want) {
        for (int i = 0; i < want.length; i++) {
            int asked = i;
            due(what + ": count(" + i + ")", want[i], () -> x.count(asked));
        }
    }
}
