/**
 * The document's sentence on refusals: what is refused, by which exception, which of them comes first
 * where more than one could hold, and that a refused call changes nothing.
 */
public final class RefusalsTest extends Checks {
    private interface Deed {
        void on(PackingSearch x);
    }

    public static void main(String[] args) {
        piecesThatThereAreNot();
        noPieceBeforeRange();
        noPieceBeforeState();
        noPieceBeforeArea();
        rangeBeforeNoRoom();
        rangeBeforeNotInThePlan();
        refusedCallsChangeNothing();
        refusedCallsOfAFullObject();
        refusedCallsOfANewObject();
        letCallsChangeSomething();
        thrownByHand();
        end();
    }

    private static PackingSearch withPieces(int count) {
        PackingSearch x = new PackingSearch(8, 1, 1);
        for (int i = 0; i < count; i++) {
            x.piece(1, 1, 1, 1);
        }
        return x;
    }

    private static int[] noPiecesOf(int count) {
        return new int[] {MIN, -7, -1, count, count + 1, 6, 7, MAX};
    }

    private static void piecesThatThereAreNot() {
        sentence("NoSuchElementException: a piece that there is not");
        for (int count = 0; count <= 6; count++) {
            PackingSearch x = withPieces(count);
            x.solve(3000);
            for (int none : noPiecesOf(count)) {
                String what = none + " of " + count;
                refused("turn " + what, NO_PIECE, () -> x.turn(none, 0));
                refused("limit " + what, NO_PIECE, () -> x.limit(none, 0));
                refused("rank " + what, NO_PIECE, () -> x.rank(none, 0));
                refused("at " + what, NO_PIECE, () -> x.at(none, 0));
                refused("support " + what, NO_PIECE, () -> x.support(none));
                refused("bears " + what, NO_PIECE, () -> x.bears(none));
                refused("box " + what, NO_PIECE, () -> x.box(none));
                if (count > 0) {
                    refused("over, the one, " + what, NO_PIECE, () -> x.over(none, 0));
                    refused("over, the other, " + what, NO_PIECE, () -> x.over(0, none));
                }
            }
            for (int piece = 0; piece < count; piece++) {
                thereIs(x, piece, count);
            }
        }
    }

    private static void thereIs(PackingSearch x, int piece, int count) {
        String what = piece + " of " + count;
        due("turn " + what, 1, () -> x.turn(piece, 0));
        due("rank " + what, piece, () -> x.rank(piece, 0));
        due("at " + what, piece, () -> x.at(piece, 0));
        due("support " + what, 100, () -> x.support(piece));
        due("bears " + what, 0, () -> x.bears(piece));
        due("box " + what, -1, () -> x.box(piece));
        if (count > 1) {
            no("over " + what, () -> x.over(piece, piece == 0 ? 1 : 0));
        }
        x.limit(piece, 0);
    }

    private static void noPieceBeforeRange() {
        sentence("the first that holds: NoSuchElementException, then IllegalArgumentException");
        for (int count : new int[] {0, 1, 6}) {
            PackingSearch x = withPieces(count);
            for (int none : noPiecesOf(count)) {
                for (int wrong : new int[] {MIN, -2, 1001, MAX}) {
                    String what = "(" + none + ", " + wrong + ") of " + count;
                    refused("turn" + what, NO_PIECE, () -> x.turn(none, wrong));
                    refused("limit" + what, NO_PIECE, () -> x.limit(none, wrong));
                    refused("rank" + what, NO_PIECE, () -> x.rank(none, wrong));
                    refused("at" + what, NO_PIECE, () -> x.at(none, wrong));
                }
            }
        }
        PackingSearch x = withPieces(1);
        refused("turn(0, 4)", RANGE, () -> x.turn(0, 4));
        refused("limit(0, 1001)", RANGE, () -> x.limit(0, 1001));
        refused("rank(0, 10)", RANGE, () -> x.rank(0, 10));
        refused("at(0, 7)", RANGE, () -> x.at(0, 7));
    }

    private static void noPieceBeforeState() {
        sentence("the first that holds: NoSuchElementException, then IllegalStateException");
        PackingSearch x = withPieces(2);
        for (int none : noPiecesOf(2)) {
            refused("over(" + none + ", 0), which is not in the plan", NO_PIECE, () -> x.over(none, 0));
            refused("over(0, " + none + "), neither is in the plan", NO_PIECE, () -> x.over(0, none));
            refused("over of two that are the same and are not", NO_PIECE, () -> x.over(none, none));
            refused("over of two that are not", NO_PIECE, () -> x.over(none, -5));
            refused("bears(" + none + ")", NO_PIECE, () -> x.bears(none));
        }
        refused("over(0, 1)", STATE, () -> x.over(0, 1));
        refused("over(0, 0)", STATE, () -> x.over(0, 0));
        refused("bears(0)", STATE, () -> x.bears(0));
    }

    private static void noPieceBeforeArea() {
        sentence("NoSuchElementException: a piece that there is not; ArithmeticException: it is not in the plan");
        PackingSearch x = withPieces(2);
        for (int none : noPiecesOf(2)) {
            refused("support(" + none + ")", NO_PIECE, () -> x.support(none));
        }
        refused("support(0)", AREA, () -> x.support(0));
        refused("support(1)", AREA, () -> x.support(1));
    }

    private static void rangeBeforeNoRoom() {
        sentence("the first that holds: IllegalArgumentException, then UnsupportedOperationException");
        for (int count = 5; count <= 6; count++) {
            PackingSearch x = withPieces(count);
            for (int wrong : new int[] {MIN, -1, 101, MAX}) {
                String what = wrong + " with " + count;
                refused("width " + what, RANGE, () -> x.piece(wrong, 1, 1, 1));
                refused("depth " + what, RANGE, () -> x.piece(1, wrong, 1, 1));
                refused("height " + what, RANGE, () -> x.piece(1, 1, wrong, 1));
                refused("weight " + what, RANGE, () -> x.piece(1, 1, 1, wrong));
                refused("all " + what, RANGE, () -> x.piece(wrong, wrong, wrong, wrong));
            }
            refused("sides of 0 with " + count, RANGE, () -> x.piece(0, 0, 0, 0));
            refused("sides of 9 with " + count, RANGE, () -> x.piece(9, 9, 9, 9));
        }
        PackingSearch five = withPieces(5);
        due("the sixth", 5, () -> five.piece(8, 8, 8, 100));
        refused("the seventh", NO_ROOM, () -> five.piece(8, 8, 8, 100));
    }

    /** Where a piece that is not in the plan, or is packed, would be answered by -1. */
    private static void rangeBeforeNotInThePlan() {
        sentence("IllegalArgumentException: another number outside its range");
        PackingSearch x = withPieces(1);
        refused("at(0, 7) before a search", RANGE, () -> x.at(0, 7));
        refused("at(0, -1) before a search", RANGE, () -> x.at(0, -1));
        due("at(0, 6) before a search", -1, () -> x.at(0, 6));
        x.solve(3000);
        x.close();
        refused("at(0, 7) of a packed piece", RANGE, () -> x.at(0, 7));
        due("at(0, 6) of a packed piece", -1, () -> x.at(0, 6));
        refused("rank(0, 10) of a packed piece", RANGE, () -> x.rank(0, 10));
        refused("rank(0, -1) of a packed piece", RANGE, () -> x.rank(0, -1));
        due("rank(0, 9) of a packed piece", -1, () -> x.rank(0, 9));
        refused("turn(0, 4) of a packed piece", RANGE, () -> x.turn(0, 4));
        refused("limit(0, -2) of a packed piece", RANGE, () -> x.limit(0, -2));
    }

    /** Everything that can be asked of an object as it is. */
    private static String look(PackingSearch x) {
        StringBuilder text = new StringBuilder();
        text.append(x.exact()).append(x.steps()).append(' ').append(x.bound());
        for (int what = 0; what <= 6; what++) {
            text.append(' ').append(x.count(what));
        }
        for (int i = 0; i < x.count(0); i++) {
            text.append(" | ").append(x.box(i));
            for (int what = 0; what <= 6; what++) {
                text.append(' ').append(x.at(i, what));
            }
            if (x.at(i, 0) >= 0) {
                text.append(' ').append(x.support(i)).append(' ').append(x.bears(i));
            }
        }
        return text.toString();
    }

    /** What cannot be asked shows in what comes: searches, boxes and the order, until nothing is left. */
    private static String story(PackingSearch x) {
        StringBuilder text = new StringBuilder(look(x));
        for (int round = 0; round < 3; round++) {
            text.append("\n").append(x.solve(3000)).append(": ").append(look(x));
            if (x.count(1) > 0) {
                text.append(" closed ").append(x.close());
            }
        }
        for (int i = 0; i < x.count(0); i++) {
            text.append(' ').append(x.rank(i, 5));
        }
        return text.toString();
    }

    /** Marks, limits, ranks and a share that all matter to the searches that come; a plan, a packed piece. */
    private static PackingSearch wellUsed() {
        PackingSearch x = packing(3, 2, 4, p(3, 2, 4, 7));
        x.solve(3000);
        x.close();
        x.piece(3, 1, 1, 2);
        x.piece(2, 2, 2, 2);
        x.piece(4, 2, 1, 4);
        x.piece(1, 3, 1, 6);
        x.turn(4, 1);
        x.limit(2, 7);
        x.rank(1, 1);
        x.rank(4, 5);
        x.share(60);
        x.solve(3000);
        return x;
    }

    private static void changesNothing(String what, PackingSearch x, PackingSearch twin,
            Class<? extends RuntimeException> want, Deed deed) {
        refused(what, want, () -> deed.on(x));
        same(what + ": the story behind it", story(twin), story(x));
    }

    private static void isRefused(String what, Class<? extends RuntimeException> want, Deed deed) {
        changesNothing(what, wellUsed(), wellUsed(), want, deed);
    }

    private static void refusedCallsChangeNothing() {
        sentence("REFUSALS: a refused call changes nothing");
        for (int wrong : new int[] {0, 9}) {
            isRefused("width " + wrong, RANGE, x -> x.piece(wrong, 1, 1, 1));
            isRefused("depth " + wrong, RANGE, x -> x.piece(1, wrong, 1, 1));
            isRefused("height " + wrong, RANGE, x -> x.piece(1, 1, wrong, 1));
        }
        isRefused("weight -1", RANGE, x -> x.piece(1, 1, 1, -1));
        isRefused("weight 101", RANGE, x -> x.piece(1, 1, 1, 101));
        for (int i = 0; i < 5; i++) {
            int piece = i;
            isRefused("turn(" + i + ", -1)", RANGE, x -> x.turn(piece, -1));
            isRefused("turn(" + i + ", 4)", RANGE, x -> x.turn(piece, 4));
            isRefused("limit(" + i + ", -2)", RANGE, x -> x.limit(piece, -2));
            isRefused("limit(" + i + ", 1001)", RANGE, x -> x.limit(piece, 1001));
            isRefused("rank(" + i + ", -1)", RANGE, x -> x.rank(piece, -1));
            isRefused("rank(" + i + ", 10)", RANGE, x -> x.rank(piece, 10));
            isRefused("at(" + i + ", 7)", RANGE, x -> x.at(piece, 7));
            isRefused("over(" + i + ", " + i + ")", STATE, x -> x.over(piece, piece));
        }
        for (int none : new int[] {-1, 5}) {
            isRefused("turn(" + none + ", 3)", NO_PIECE, x -> x.turn(none, 3));
            isRefused("limit(" + none + ", 0)", NO_PIECE, x -> x.limit(none, 0));
            isRefused("rank(" + none + ", 9)", NO_PIECE, x -> x.rank(none, 9));
            isRefused("box(" + none + ")", NO_PIECE, x -> x.box(none));
        }
        isRefused("share(-1)", RANGE, x -> x.share(-1));
        isRefused("share(101)", RANGE, x -> x.share(101));
        isRefused("solve(-1)", RANGE, x -> x.solve(-1));
        isRefused("solve(3001)", RANGE, x -> x.solve(3001));
        isRefused("support(0)", AREA, x -> x.support(0));
        isRefused("bears(0)", STATE, x -> x.bears(0));
        isRefused("cell(3, 0, 0)", NO_CELL, x -> x.cell(3, 0, 0));
    }

    private static PackingSearch full() {
        PackingSearch x = withPieces(6);
        x.solve(40);
        return x;
    }

    private static void refusedCallsOfAFullObject() {
        sentence("UnsupportedOperationException: no room");
        changesNothing("a seventh piece", full(), full(), NO_ROOM, x -> x.piece(2, 1, 1, 50));
        PackingSearch packed = full();
        PackingSearch twin = full();
        packed.solve(3000);
        twin.solve(3000);
        packed.close();
        twin.close();
        changesNothing("a seventh, when all are packed", packed, twin, NO_ROOM, x -> x.piece(2, 1, 1, 50));
    }

    private static void refusedCallsOfANewObject() {
        sentence("IllegalStateException: not as it is now");
        changesNothing("close of a new object", withPieces(0), withPieces(0), STATE, x -> x.close());
        changesNothing("close before a search", withPieces(3), withPieces(3), STATE, x -> x.close());
        changesNothing("over before a search", withPieces(3), withPieces(3), STATE, x -> x.over(0, 1));
        changesNothing("bears before a search", withPieces(3), withPieces(3), STATE, x -> x.bears(0));
        changesNothing("support before a search", withPieces(3), withPieces(3), AREA, x -> x.support(0));
    }

    /** The other side: were the story deaf to what a call tells, the checks above would hold nothing. */
    private static void letCallsChangeSomething() {
        sentence("A call that is not refused");
        isHeard("piece", x -> x.piece(1, 1, 1, 1));
        isHeard("turn, fewer marks", x -> x.turn(4, 0));
        isHeard("turn, more marks", x -> x.turn(4, 3));
        isHeard("limit, less", x -> x.limit(2, 0));
        isHeard("limit, none", x -> x.limit(2, -1));
        isHeard("rank, lower", x -> x.rank(4, 0));
        isHeard("rank, higher", x -> x.rank(1, 9));
        isHeard("share, less", x -> x.share(0));
        isHeard("share, more", x -> x.share(100));
        isHeard("solve", x -> x.solve(5));
        isHeard("close", x -> x.close());
    }

    private static void isHeard(String what, Deed deed) {
        PackingSearch x = wellUsed();
        String before = story(wellUsed());
        deed.on(x);
        no(what + " is not heard", () -> before.equals(story(x)));
    }

    /** The machine itself must not throw, even where the document asks for its own exceptions. */
    private static void thrownByHand() {
        sentence("(the machine's own)");
        PackingSearch x = withPieces(1);
        same("support", "by a throw", thrower(() -> x.support(0)));
        same("cell, x", "by a throw", thrower(() -> x.cell(8, 0, 0)));
        same("cell, y", "by a throw", thrower(() -> x.cell(0, 1, 0)));
        same("cell, z", "by a throw", thrower(() -> x.cell(0, 0, -1)));
    }

    private static String thrower(Order order) {
        try {
            order.carryOut();
        } catch (ArithmeticException | ArrayIndexOutOfBoundsException e) {
            String words = String.valueOf(e.getMessage());
            return words.contains("by zero") || words.startsWith("Index ") ? "by the machine" : "by a throw";
        }
        return "by nobody";
    }
}
