import java.util.NoSuchElementException;

public final class PackingSearch {
    private static final int MOST_PIECES = 6;
    private static final int LONGEST_SIDE = 8;
    private static final int MOST_WEIGHT = 100;
    private static final int MOST_MARKS = 3;
    private static final int NO_LIMIT = -1;
    private static final int MOST_LIMIT = 1000;
    private static final int MOST_RANK = 9;
    private static final int WHOLE_SHARE = 100;
    private static final int MOST_STEPS = 3000;
    private static final int WAYS = 6;
    private static final int LAST_DETAIL = 6;
    private static final int NONE = -1;
    private static final int ALONG_WIDTH = 0;
    private static final int ALONG_DEPTH = 1;
    private static final int ALONG_HEIGHT = 2;

    // All six are made at once and never replaced, so that no reference here is ever null.
    private final Piece[] pieces;
    private final Plan plan;
    private final Plan trial;
    private final int[] order;
    private int pieceCount;
    private int orderLength;
    private int leastShare;
    private int closedBoxes;
    private int stepsAllowed;
    private int stepsDone;
    private int bestVolume;
    private boolean cutShort;
    private boolean didAll;

    public PackingSearch(int width, int depth, int height) {
        int boxWidth = asSide(width);
        int boxDepth = asSide(depth);
        int boxHeight = asSide(height);
        pieces = new Piece[MOST_PIECES];
        for (int i = 0; i < pieces.length; i++) {
            pieces[i] = new Piece();
        }
        plan = new Plan(boxWidth, boxDepth, boxHeight);
        trial = new Plan(boxWidth, boxDepth, boxHeight);
        order = new int[MOST_PIECES];
    }

    public int piece(int width, int depth, int height, int weight)
            throws IllegalArgumentException, UnsupportedOperationException {
        if (!isSide(width) || !isSide(depth) || !isSide(height)) {
            throw new IllegalArgumentException("a side outside 1 .. 8");
        }
        if (weight < 0 || weight > MOST_WEIGHT) {
            throw new IllegalArgumentException("a weight outside 0 .. 100");
        }
        if (pieceCount >= pieces.length) {
            throw new UnsupportedOperationException("no room for another piece");
        }
        int number = pieceCount;
        pieces[number].become(width, depth, height, weight);
        pieceCount++;
        return number;
    }

    public int turn(int piece, int marks) throws NoSuchElementException, IllegalArgumentException {
        Piece turned = known(piece);
        if (marks < 0 || marks > MOST_MARKS) {
            throw new IllegalArgumentException("marks outside 0 .. 3");
        }
        turned.mark(marks);
        return turned.wayCount();
    }

    public void limit(int piece, int weight) throws NoSuchElementException, IllegalArgumentException {
        Piece limited = known(piece);
        if (weight < NO_LIMIT || weight > MOST_LIMIT) {
            throw new IllegalArgumentException("a limit outside -1 .. 1000");
        }
        limited.mostBorne = weight;
    }

    public int rank(int piece, int rank) throws NoSuchElementException, IllegalArgumentException {
        Piece ranked = known(piece);
        if (rank < 0 || rank > MOST_RANK) {
            throw new IllegalArgumentException("a rank outside 0 .. 9");
        }
        ranked.ranking = rank;
        return ranked.isPacked() ? NONE : positionOf(ranked, piece);
    }

    public void share(int hundredths) throws IllegalArgumentException {
        if (hundredths < 0 || hundredths > WHOLE_SHARE) {
            throw new IllegalArgumentException("a share outside 0 .. 100");
        }
        leastShare = hundredths;
    }

    public int solve(int steps) throws IllegalArgumentException {
        if (steps < 0 || steps > MOST_STEPS) {
            throw new IllegalArgumentException("steps outside 0 .. 3000");
        }
        startSearch(steps);
        searchFrom(0);
        didAll = !cutShort;
        return plan.volume();
    }

    public boolean exact() {
        return didAll;
    }

    public int steps() {
        return stepsDone;
    }

    public int bound() {
        int sum = 0;
        for (int i = 0; i < pieceCount; i++) {
            if (!pieces[i].isPacked() && fitsAlone(pieces[i])) {
                sum += pieces[i].volume();
            }
        }
        return Math.min(plan.boxVolume(), sum);
    }

    public int at(int piece, int what) throws NoSuchElementException, IllegalArgumentException {
        Spot spot = spotOf(piece);
        if (what < 0 || what > LAST_DETAIL) {
            throw new IllegalArgumentException("what outside 0 .. 6");
        }
        return spot.placed ? spot.detail(what) : NONE;
    }

    public boolean over(int piece, int other) throws NoSuchElementException, IllegalStateException {
        Spot one = spotOf(piece);
        Spot two = spotOf(other);
        if (piece == other || !one.placed || !two.placed) {
            throw new IllegalStateException("not two pieces of the plan");
        }
        return one.meetsFromAbove(two);
    }

    public int support(int piece) throws NoSuchElementException, ArithmeticException {
        Spot spot = spotOf(piece);
        int area = spot.area();
        if (area == 0) {
            throw new ArithmeticException("the piece is not in the plan");
        }
        return WHOLE_SHARE * plan.supportOf(spot) / area;
    }

    public int bears(int piece) throws NoSuchElementException, IllegalStateException {
        Spot spot = spotOf(piece);
        if (!spot.placed) {
            throw new IllegalStateException("the piece is not in the plan");
        }
        plan.noteStanders();
        return plan.weightOn(spot);
    }

    public int cell(int x, int y, int z) throws ArrayIndexOutOfBoundsException {
        if (!plan.hasCell(x, y, z)) {
            // The document asks for the machine's own exception, and the machine must not throw here.
            throw new ArrayIndexOutOfBoundsException("no such cell");
        }
        return plan.pieceIn(x, y, z);
    }

    public int close() throws IllegalStateException {
        if (plan.size() == 0) {
            throw new IllegalStateException("no piece is in the plan");
        }
        int number = closedBoxes;
        for (int i = 0; i < pieceCount; i++) {
            if (plan.spots[i].placed) {
                pieces[i].packedInto = number;
            }
        }
        plan.clear();
        closedBoxes++;
        return number;
    }

    public int box(int piece) throws NoSuchElementException {
        return known(piece).packedInto;
    }

    public int count(int what) {
        switch (what) {
            case 0:
                return pieceCount;
            case 1:
                return plan.size();
            case 2:
                return unpackedCount();
            case 3:
                return closedBoxes;
            case 4:
                return plan.volume();
            case 5:
                return plan.weight();
            case 6:
                return plan.top();
            default:
                return NONE;
        }
    }

    private static int asSide(int length) {
        return Math.max(1, Math.min(LONGEST_SIDE, length));
    }

    private static boolean isSide(int length) {
        return length >= 1 && length <= LONGEST_SIDE;
    }

    private static boolean isIn(int set, int member) {
        return (set >> member & 1) == 1;
    }

    private Piece known(int number) {
        if (number < 0 || number >= pieceCount) {
            throw new NoSuchElementException("no such piece");
        }
        return pieces[number];
    }

    private Spot spotOf(int number) {
        if (number < 0 || number >= pieceCount) {
            throw new NoSuchElementException("no such piece");
        }
        return plan.spots[number];
    }

    private int unpackedCount() {
        int unpacked = 0;
        for (int i = 0; i < pieceCount; i++) {
            if (!pieces[i].isPacked()) {
                unpacked++;
            }
        }
        return unpacked;
    }

    private int positionOf(Piece piece, int number) {
        int before = 0;
        for (int i = 0; i < pieceCount; i++) {
            boolean first = pieces[i].ranking < piece.ranking
                    || pieces[i].ranking == piece.ranking && i < number;
            if (first && !pieces[i].isPacked()) {
                before++;
            }
        }
        return before;
    }

    private boolean fitsAlone(Piece piece) {
        for (int way = 0; way < WAYS; way++) {
            if (piece.lets(way)
                    && plan.takes(piece.widthIn(way), piece.depthIn(way), piece.heightIn(way))) {
                return true;
            }
        }
        return false;
    }

    private void startSearch(int steps) {
        plan.clear();
        stepsAllowed = steps;
        stepsDone = 0;
        bestVolume = NONE;
        cutShort = false;
        putInOrder();
    }

    private void putInOrder() {
        orderLength = 0;
        for (int ranking = 0; ranking <= MOST_RANK; ranking++) {
            for (int i = 0; i < pieceCount && orderLength < order.length; i++) {
                if (pieces[i].ranking == ranking && !pieces[i].isPacked()) {
                    order[orderLength] = i;
                    orderLength++;
                }
            }
        }
    }

    private void searchFrom(int depth) {
        if (depth >= orderLength) {
            lookAtTrial();
            return;
        }
        int number = order[depth];
        for (int way = 0; way < WAYS && !cutShort; way++) {
            if (pieces[number].lets(way)) {
                tryWay(depth, pieces[number], trial.spots[number], way);
            }
        }
        if (!cutShort) {
            searchFrom(depth + 1);
        }
    }

    // A place at the box's far side is no place for any piece, but it is a trial and so a step.
    private void tryWay(int depth, Piece piece, Spot spot, int way) {
        int xs = trial.ends(ALONG_WIDTH);
        int ys = trial.ends(ALONG_DEPTH);
        int zs = trial.ends(ALONG_HEIGHT);
        for (int z = 0; z <= LONGEST_SIDE; z++) {
            if (!isIn(zs, z)) {
                continue;
            }
            for (int y = 0; y <= LONGEST_SIDE; y++) {
                if (!isIn(ys, y)) {
                    continue;
                }
                for (int x = 0; x <= LONGEST_SIDE; x++) {
                    if (!isIn(xs, x)) {
                        continue;
                    }
                    if (stepsDone >= stepsAllowed) {
                        cutShort = true;
                        return;
                    }
                    stepsDone++;
                    spot.stand(piece, way, x, y, z);
                    if (trial.isPlanWith(spot, leastShare)) {
                        searchFrom(depth + 1);
                    }
                    // Also when the search is cut short: the next one needs an empty trial.
                    spot.leave();
                    if (cutShort) {
                        return;
                    }
                }
            }
        }
    }

    private void lookAtTrial() {
        int volume = trial.volume();
        if (volume > bestVolume) {
            bestVolume = volume;
            plan.copyFrom(trial);
        }
    }

    private static final class Piece {
        int width;
        int depth;
        int height;
        int weight;
        int letWays;
        int mostBorne;
        int ranking;
        int packedInto;

        Piece() {
            letWays = 1;
            mostBorne = NO_LIMIT;
            packedInto = NONE;
        }

        void become(int itsWidth, int itsDepth, int itsHeight, int itsWeight) {
            width = itsWidth;
            depth = itsDepth;
            height = itsHeight;
            weight = itsWeight;
        }

        boolean isPacked() {
            return packedInto != NONE;
        }

        int volume() {
            return width * depth * height;
        }

        boolean lets(int way) {
            return isIn(letWays, way);
        }

        int wayCount() {
            return Integer.bitCount(letWays);
        }

        void mark(int marks) {
            letWays = 0;
            for (int way = 0; way < WAYS; way++) {
                int needed = marksFor(way);
                if ((marks & needed) == needed && !isLikeOneLet(way)) {
                    letWays |= 1 << way;
                }
            }
        }

        private boolean isLikeOneLet(int way) {
            for (int lower = 0; lower < way; lower++) {
                if (lets(lower) && widthIn(lower) == widthIn(way)
                        && depthIn(lower) == depthIn(way) && heightIn(lower) == heightIn(way)) {
                    return true;
                }
            }
            return false;
        }

        private static int marksFor(int way) {
            switch (way) {
                case 0:
                    return 0;
                case 1:
                    return 1;
                case 2:
                case 4:
                    return 2;
                default:
                    return 3;
            }
        }

        int widthIn(int way) {
            switch (way) {
                case 0:
                case 2:
                    return width;
                case 1:
                case 4:
                    return depth;
                default:
                    return height;
            }
        }

        int depthIn(int way) {
            switch (way) {
                case 1:
                case 3:
                    return width;
                case 0:
                case 5:
                    return depth;
                default:
                    return height;
            }
        }

        int heightIn(int way) {
            switch (way) {
                case 4:
                case 5:
                    return width;
                case 2:
                case 3:
                    return depth;
                default:
                    return height;
            }
        }
    }

    // A spot keeps its own sizes and weights: marks and limits that change later
    // must not change a plan that has been found.
    private static final class Spot {
        boolean placed;
        int x;
        int y;
        int z;
        int width;
        int depth;
        int height;
        int way;
        int weight;
        int mostBorne;
        int standers;

        void stand(Piece piece, int itsWay, int atX, int atY, int atZ) {
            placed = true;
            x = atX;
            y = atY;
            z = atZ;
            width = piece.widthIn(itsWay);
            depth = piece.depthIn(itsWay);
            height = piece.heightIn(itsWay);
            way = itsWay;
            weight = piece.weight;
            mostBorne = piece.mostBorne;
        }

        void leave() {
            placed = false;
        }

        void copyFrom(Spot other) {
            placed = other.placed;
            x = other.x;
            y = other.y;
            z = other.z;
            width = other.width;
            depth = other.depth;
            height = other.height;
            way = other.way;
            weight = other.weight;
            mostBorne = other.mostBorne;
        }

        int detail(int what) {
            switch (what) {
                case 0:
                    return x;
                case 1:
                    return y;
                case 2:
                    return z;
                case 3:
                    return width;
                case 4:
                    return depth;
                case 5:
                    return height;
                default:
                    return way;
            }
        }

        int endAlong(int axis) {
            switch (axis) {
                case ALONG_WIDTH:
                    return x + width;
                case ALONG_DEPTH:
                    return y + depth;
                default:
                    return z + height;
            }
        }

        int area() {
            return placed ? width * depth : 0;
        }

        int volume() {
            return area() * height;
        }

        boolean covers(int cellX, int cellY, int cellZ) {
            return x <= cellX && cellX < x + width
                    && y <= cellY && cellY < y + depth
                    && z <= cellZ && cellZ < z + height;
        }

        boolean meetsFromAbove(Spot other) {
            return x < other.x + other.width && other.x < x + width
                    && y < other.y + other.depth && other.y < y + depth;
        }

        boolean meets(Spot other) {
            return meetsFromAbove(other) && z < other.z + other.height && other.z < z + height;
        }

        boolean standsOn(Spot other) {
            return z == other.z + other.height && meetsFromAbove(other);
        }

        int commonArea(Spot other) {
            int alongX = Math.min(x + width, other.x + other.width) - Math.max(x, other.x);
            int alongY = Math.min(y + depth, other.y + other.depth) - Math.max(y, other.y);
            return alongX * alongY;
        }
    }

    // The spot with a piece's number is that piece's; it is in the plan if it is placed.
    private static final class Plan {
        final int boxWidth;
        final int boxDepth;
        final int boxHeight;
        final Spot[] spots;

        Plan(int width, int depth, int height) {
            boxWidth = width;
            boxDepth = depth;
            boxHeight = height;
            spots = new Spot[MOST_PIECES];
            for (int i = 0; i < spots.length; i++) {
                spots[i] = new Spot();
            }
        }

        void clear() {
            for (int i = 0; i < spots.length; i++) {
                spots[i].leave();
            }
        }

        void copyFrom(Plan other) {
            for (int i = 0; i < spots.length && i < other.spots.length; i++) {
                spots[i].copyFrom(other.spots[i]);
            }
        }

        int boxVolume() {
            return boxWidth * boxDepth * boxHeight;
        }

        boolean takes(int width, int depth, int height) {
            return width <= boxWidth && depth <= boxDepth && height <= boxHeight;
        }

        boolean hasCell(int x, int y, int z) {
            return x >= 0 && x < boxWidth && y >= 0 && y < boxDepth && z >= 0 && z < boxHeight;
        }

        int pieceIn(int x, int y, int z) {
            for (int i = 0; i < spots.length; i++) {
                if (spots[i].placed && spots[i].covers(x, y, z)) {
                    return i;
                }
            }
            return NONE;
        }

        int size() {
            int placed = 0;
            for (int i = 0; i < spots.length; i++) {
                if (spots[i].placed) {
                    placed++;
                }
            }
            return placed;
        }

        int volume() {
            int sum = 0;
            for (int i = 0; i < spots.length; i++) {
                sum += spots[i].volume();
            }
            return sum;
        }

        int weight() {
            int sum = 0;
            for (int i = 0; i < spots.length; i++) {
                if (spots[i].placed) {
                    sum += spots[i].weight;
                }
            }
            return sum;
        }

        int top() {
            int highest = 0;
            for (int i = 0; i < spots.length; i++) {
                if (spots[i].placed) {
                    highest = Math.max(highest, spots[i].endAlong(ALONG_HEIGHT));
                }
            }
            return highest;
        }

        // A set, a bit for each number: ends are at most 8, and a set that is walked upward
        // gives each of them once and in order.
        int ends(int axis) {
            int ends = 1;
            for (int i = 0; i < spots.length; i++) {
                if (spots[i].placed) {
                    ends |= 1 << spots[i].endAlong(axis);
                }
            }
            return ends;
        }

        // All was well without the newest piece, and a piece more takes no support away,
        // so its own support is enough to look at; but it may weigh on any of the others.
        boolean isPlanWith(Spot newest, int share) {
            return takes(newest.x + newest.width, newest.y + newest.depth, newest.z + newest.height)
                    && hasRoomFor(newest)
                    && WHOLE_SHARE * supportOf(newest) >= share * newest.area()
                    && weightsAreBorne();
        }

        private boolean hasRoomFor(Spot newest) {
            for (int i = 0; i < spots.length; i++) {
                if (spots[i].placed && spots[i] != newest && spots[i].meets(newest)) {
                    return false;
                }
            }
            return true;
        }

        int supportOf(Spot spot) {
            if (spot.z == 0) {
                return spot.area();
            }
            int sum = 0;
            for (int i = 0; i < spots.length; i++) {
                if (spots[i].placed && spot.standsOn(spots[i])) {
                    sum += spot.commonArea(spots[i]);
                }
            }
            return sum;
        }

        private boolean weightsAreBorne() {
            noteStanders();
            for (int i = 0; i < spots.length; i++) {
                if (spots[i].placed && spots[i].mostBorne != NO_LIMIT
                        && weightOn(spots[i]) > spots[i].mostBorne) {
                    return false;
                }
            }
            return true;
        }

        // Each spot's standers are the set of the pieces that stand on it directly;
        // noted once, they serve the weights of all spots.
        void noteStanders() {
            for (int below = 0; below < spots.length; below++) {
                spots[below].standers = 0;
                for (int i = 0; i < spots.length && spots[below].placed; i++) {
                    if (spots[i].placed && spots[i].standsOn(spots[below])) {
                        spots[below].standers |= 1 << i;
                    }
                }
            }
        }

        // Needs noteStanders() first. A round goes one floor up at least, and there are
        // no more floors than pieces.
        int weightOn(Spot bearer) {
            int all = bearer.standers;
            int before = 0;
            for (int round = 0; round < spots.length && before != all; round++) {
                before = all;
                for (int i = 0; i < spots.length; i++) {
                    if (isIn(all, i)) {
                        all |= spots[i].standers;
                    }
                }
            }
            int sum = 0;
            for (int i = 0; i < spots.length; i++) {
                if (isIn(all, i)) {
                    sum += spots[i].weight;
                }
            }
            return sum;
        }
    }
}
