/**
 * A sketch of a part, drawn by wishes, and a body made of it.
 *
 * Every row that a call needs is made with the object, and calls make nothing, since all the
 * calls of a run share one small room.
 */
public final class PartSketch {
    public static final int WORKS = 0, IDLE = 1, BROKEN = 2;

    private static final int MAX_POINTS = 16;
    private static final int MAX_WISHES = 40;
    private static final int MAX_POCKETS = 8;
    private static final int VARIANTS = 4;
    /** Hints and sizes go from -REACH to REACH. */
    private static final int REACH = 100;
    /** Heights and depths go from 1 to MAX_DEPTH; below 63, so that layers are bits of a long. */
    private static final int MAX_DEPTH = 50;
    /** The kinds of wishes. */
    private static final int APART_IN_X = 0, APART_IN_Y = 1, AT_HINT = 2;
    /** A place behind the points that is at 0: a point at its hint by a wish hangs on it. */
    private static final int GROUND = MAX_POINTS;
    /** No size, so that it marks in the table what a variant does not tell. */
    private static final int UNTOLD = REACH + 1;
    private static final int PRICE_OF_BASE_CELL = 2, PRICE_OF_TAKEN_CELL = 1, PRICE_OF_DEPTH = 100;

    private final Axis xAxis = new Axis();
    private final Axis yAxis = new Axis();
    private final WishRows rows = new WishRows();
    private final Body body = new Body();
    private int points;
    /** Whether states and places stand; what changes points or wishes makes it false. */
    private boolean settled;

    public PartSketch() {
    }

    // ---- points and wishes

    public int point(int x, int y) throws IllegalArgumentException, IllegalStateException {
        requireReach(x);
        requireReach(y);
        if (points >= MAX_POINTS) {
            throw new IllegalStateException("there are 16 points");
        }
        int added = points;
        points++;
        moveHint(added, x, y);
        return added;
    }

    public void hint(int point, int x, int y) throws IndexOutOfBoundsException, IllegalArgumentException {
        requirePoint(point);
        requireReach(x);
        requireReach(y);
        moveHint(point, x, y);
    }

    public int wish(int kind, int one, int other, int size)
            throws IllegalArgumentException, IndexOutOfBoundsException, IllegalStateException {
        if (kind < APART_IN_X || kind > AT_HINT) {
            throw new IllegalArgumentException("the kind is not from 0 to 2");
        }
        if (kind != AT_HINT) {
            requireReach(size);
            if (one == other) {
                throw new IllegalArgumentException("one and other are the same point");
            }
        }
        requirePoint(one);
        if (kind != AT_HINT) {
            requirePoint(other);
        }
        if (rows.count >= MAX_WISHES) {
            throw new IllegalStateException("there are 40 wishes");
        }
        settled = false;
        return kind == AT_HINT ? rows.append(kind, one, one, 0) : rows.append(kind, one, other, size);
    }

    public int remove(int wish) throws IndexOutOfBoundsException {
        requireWish(wish);
        settle();
        int until = rows.state[wish];
        rows.drop(wish);
        settled = false;
        return until;
    }

    public int type(int wish, int size)
            throws IndexOutOfBoundsException, IllegalStateException, IllegalArgumentException {
        requireWish(wish);
        requireSized(wish);
        requireReach(size);
        int before = rows.size[wish];
        rows.size[wish] = size;
        settled = false;
        return before;
    }

    public int state(int wish) throws IndexOutOfBoundsException {
        requireWish(wish);
        settle();
        return rows.state[wish];
    }

    public int wishes() {
        return rows.count;
    }

    public int freedom() {
        settle();
        return xAxis.freeGroups + yAxis.freeGroups;
    }

    public int x(int point) throws IndexOutOfBoundsException {
        requirePoint(point);
        settle();
        return xAxis.placeOf(point);
    }

    public int y(int point) throws IndexOutOfBoundsException {
        requirePoint(point);
        settle();
        return yAxis.placeOf(point);
    }

    // ---- variants

    public int tell(int variant, int wish, int size)
            throws IllegalArgumentException, IndexOutOfBoundsException, IllegalStateException {
        requireVariant(variant);
        requireReach(size);
        requireWish(wish);
        requireSized(wish);
        rows.told[variant][wish] = size;
        return rows.countTold(variant);
    }

    public int choose(int variant) throws IllegalArgumentException {
        requireVariant(variant);
        settled = false;
        return rows.takeOver(variant);
    }

    // ---- the body

    public boolean setBase(int one, int other, int height)
            throws IndexOutOfBoundsException, IllegalArgumentException {
        requirePoint(one);
        requirePoint(other);
        requireDepth(height);
        body.layBase(one, other, height);
        measure();
        return !body.base().failing;
    }

    public int pocket(int one, int other, int depth, int in)
            throws IndexOutOfBoundsException, IllegalArgumentException, IllegalStateException {
        requirePoint(one);
        requirePoint(other);
        if (in != -1) {
            requirePocket(in);
        }
        requireDepth(depth);
        if (!body.hasBase) {
            throw new IllegalStateException("there is no base");
        }
        if (body.pockets >= MAX_POCKETS) {
            throw new IllegalStateException("there are 8 pockets");
        }
        return body.addPocket(one, other, depth, in);
    }

    public boolean fails(int pocket) throws IndexOutOfBoundsException {
        requirePocket(pocket);
        measure();
        return body.pocketAt(pocket).failing;
    }

    public int volume() {
        measure();
        return body.wholeCells() - body.takenCells();
    }

    public int price() {
        measure();
        return PRICE_OF_BASE_CELL * body.wholeCells()
                + PRICE_OF_TAKEN_CELL * body.takenCells()
                + PRICE_OF_DEPTH * body.differentDepths();
    }

    // ---- what calls must keep to

    private static void requireReach(int number) {
        if (number < -REACH || number > REACH) {
            throw new IllegalArgumentException("a number is not from -100 to 100");
        }
    }

    private static void requireDepth(int depth) {
        if (depth < 1 || depth > MAX_DEPTH) {
            throw new IllegalArgumentException("a height or depth is not from 1 to 50");
        }
    }

    private static void requireVariant(int variant) {
        if (variant < 0 || variant >= VARIANTS) {
            throw new IllegalArgumentException("the variant is not from 0 to 3");
        }
    }

    private void requirePoint(int point) {
        if (point < 0 || point >= points) {
            throw new IndexOutOfBoundsException("there is no such point");
        }
    }

    private void requireWish(int wish) {
        if (wish < 0 || wish >= rows.count) {
            throw new IndexOutOfBoundsException("there is no such wish");
        }
    }

    private void requireSized(int wish) {
        if (rows.kind[wish] == AT_HINT) {
            throw new IllegalStateException("a wish of the kind 2 has no size");
        }
    }

    private void requirePocket(int pocket) {
        if (pocket < 0 || pocket >= body.pockets) {
            throw new IndexOutOfBoundsException("there is no such pocket");
        }
    }

    // ---- how wishes are solved

    private void moveHint(int point, int x, int y) {
        xAxis.hint[point] = x;
        yAxis.hint[point] = y;
        settled = false;
    }

    private void measure() {
        settle();
        body.measure(xAxis, yAxis);
    }

    private void settle() {
        if (settled) {
            return;
        }
        xAxis.loosen();
        yAxis.loosen();
        for (int wish = 0; wish < rows.count; wish++) {
            rows.state[wish] = admit(wish);
        }
        xAxis.pinFreeGroups(points);
        yAxis.pinFreeGroups(points);
        settled = true;
    }

    /** Lets the wish hold if it can, and answers what becomes of it. */
    private int admit(int wish) {
        int one = rows.one[wish];
        int other = rows.other[wish];
        int size = rows.size[wish];
        switch (rows.kind[wish]) {
            case APART_IN_X:
                return admitApart(xAxis, one, other, size);
            case APART_IN_Y:
                return admitApart(yAxis, one, other, size);
            default:
                return admitAtHint(one);
        }
    }

    private static int admitApart(Axis axis, int one, int other, int size) {
        int verdict = axis.judge(one, other, size);
        if (verdict == WORKS) {
            axis.join(one, other, size);
        }
        return verdict;
    }

    /** Both axes are judged before either is touched: a broken wish counts for neither. */
    private int admitAtHint(int point) {
        int inX = xAxis.judge(GROUND, point, xAxis.hint[point]);
        int inY = yAxis.judge(GROUND, point, yAxis.hint[point]);
        if (inX == BROKEN || inY == BROKEN) {
            return BROKEN;
        }
        if (inX == WORKS) {
            xAxis.join(GROUND, point, xAxis.hint[point]);
        }
        if (inY == WORKS) {
            yAxis.join(GROUND, point, yAxis.hint[point]);
        }
        return inX == IDLE && inY == IDLE ? IDLE : WORKS;
    }

    /** One coordinate of all points: which hang together in it, and how far apart they are. */
    private static final class Axis {
        final int[] hint = new int[MAX_POINTS];
        /** How many groups had no point at its hint by a wish, when they were pinned. */
        int freeGroups;
        private final int[] group = new int[MAX_POINTS + 1];
        /** Two places of one group are told by their difference; alone they mean nothing. */
        private final int[] place = new int[MAX_POINTS + 1];

        void loosen() {
            for (int i = 0; i < group.length; i++) {
                group[i] = i;
                place[i] = 0;
            }
        }

        /** What becomes of the wish that other less one is size. */
        int judge(int one, int other, int size) {
            if (group[one] != group[other]) {
                return WORKS;
            }
            return place[other] - place[one] == size ? IDLE : BROKEN;
        }

        /** Makes one group of two, so that other less one is size. */
        void join(int one, int other, int size) {
            int kept = group[one];
            int joined = group[other];
            int shift = place[one] + size - place[other];
            for (int i = 0; i < group.length; i++) {
                if (group[i] == joined) {
                    group[i] = kept;
                    place[i] += shift;
                }
            }
        }

        /** Going up, the first point met of a free group is its lowest, whose hint decides. */
        void pinFreeGroups(int points) {
            freeGroups = 0;
            for (int i = 0; i < points; i++) {
                if (group[i] != group[GROUND]) {
                    freeGroups++;
                    join(GROUND, i, hint[i]);
                }
            }
        }

        int placeOf(int point) {
            return place[point] - place[GROUND];
        }
    }

    /** The wishes and the table of variants, a row for each thing that is known of a wish. */
    private static final class WishRows {
        int count;
        final int[] kind = new int[MAX_WISHES];
        final int[] one = new int[MAX_WISHES];
        final int[] other = new int[MAX_WISHES];
        final int[] size = new int[MAX_WISHES];
        final int[] state = new int[MAX_WISHES];
        final int[][] told = new int[VARIANTS][MAX_WISHES];

        int append(int newKind, int newOne, int newOther, int newSize) {
            int added = count;
            kind[added] = newKind;
            one[added] = newOne;
            other[added] = newOther;
            size[added] = newSize;
            for (int variant = 0; variant < VARIANTS; variant++) {
                told[variant][added] = UNTOLD;
            }
            count++;
            return added;
        }

        void drop(int wish) {
            closeGap(kind, wish);
            closeGap(one, wish);
            closeGap(other, wish);
            closeGap(size, wish);
            for (int variant = 0; variant < VARIANTS; variant++) {
                closeGap(told[variant], wish);
            }
            count--;
        }

        int countTold(int variant) {
            int found = 0;
            for (int wish = 0; wish < count; wish++) {
                if (told[variant][wish] != UNTOLD) {
                    found++;
                }
            }
            return found;
        }

        /** Sets the sizes that the variant tells, and answers how many are other than before. */
        int takeOver(int variant) {
            int changed = 0;
            for (int wish = 0; wish < count; wish++) {
                int wanted = told[variant][wish];
                if (wanted != UNTOLD && wanted != size[wish]) {
                    size[wish] = wanted;
                    changed++;
                }
            }
            return changed;
        }

        private void closeGap(int[] row, int wish) {
            System.arraycopy(row, wish + 1, row, wish, count - wish - 1);
        }
    }

    /** The base or a pocket: a rectangle between two points, and how far it goes down. */
    private static final class Block {
        int one;
        int other;
        /** Of the base, its height. */
        int depth;
        /** What a pocket is in; null for the base. */
        Block outer;
        int left;
        int right;
        int low;
        int high;
        /** How far below the top of the base the bottom of a pocket is; 0 for the base. */
        int bottom;
        boolean failing;

        void put(int newOne, int newOther, int newDepth, Block newOuter) {
            one = newOne;
            other = newOther;
            depth = newDepth;
            outer = newOuter;
        }

        /** What it is in has to be measured ahead of it. */
        void measure(Axis xAxis, Axis yAxis, int height) {
            left = Math.min(xAxis.placeOf(one), xAxis.placeOf(other));
            right = Math.max(xAxis.placeOf(one), xAxis.placeOf(other));
            low = Math.min(yAxis.placeOf(one), yAxis.placeOf(other));
            high = Math.max(yAxis.placeOf(one), yAxis.placeOf(other));
            boolean flat = left == right || low == high;
            if (outer == null) {
                bottom = 0;
                failing = flat;
            } else {
                bottom = outer.bottom + depth;
                failing = flat || outer.failing || !liesIn(outer) || bottom >= height;
            }
        }

        int cells() {
            return (right - left) * (high - low) * depth;
        }

        /** Whether the column of cells whose lowest corner this is goes through the rectangle. */
        boolean covers(int x, int y) {
            return left <= x && x < right && low <= y && y < high;
        }

        /** The layers that a pocket which does not fail takes out, the top of the base as bit 0. */
        long layers() {
            return ((1L << depth) - 1) << (bottom - depth);
        }

        private boolean liesIn(Block around) {
            return left >= around.left && right <= around.right
                    && low >= around.low && high <= around.high;
        }
    }

    /** The base and its pockets; there are none while there is no base. */
    private static final class Body {
        boolean hasBase;
        int pockets;
        /** The base, and behind it the pockets, so that each stands behind what it is in. */
        private final Block[] blocks = new Block[1 + MAX_POCKETS];
        private final int[] xSides = new int[2 * MAX_POCKETS];
        private final int[] ySides = new int[2 * MAX_POCKETS];

        Body() {
            for (int i = 0; i < blocks.length; i++) {
                blocks[i] = new Block();
            }
        }

        Block base() {
            return blocks[0];
        }

        /** The pocket -1 is the base, as in the document. */
        Block pocketAt(int number) {
            return blocks[1 + number];
        }

        void layBase(int one, int other, int height) {
            base().put(one, other, height, null);
            hasBase = true;
        }

        int addPocket(int one, int other, int depth, int in) {
            int added = pockets;
            pocketAt(added).put(one, other, depth, pocketAt(in));
            pockets++;
            return added;
        }

        void measure(Axis xAxis, Axis yAxis) {
            if (!hasBase) {
                return;
            }
            for (int number = -1; number < pockets; number++) {
                pocketAt(number).measure(xAxis, yAxis, base().depth);
            }
        }

        int wholeCells() {
            return hasBase && !base().failing ? base().cells() : 0;
        }

        /** Between two neighbouring sides in x and two in y, all columns of cells are alike. */
        int takenCells() {
            int sides = gatherSides();
            int taken = 0;
            for (int i = 1; i < sides; i++) {
                for (int j = 1; j < sides; j++) {
                    int columns = (xSides[i] - xSides[i - 1]) * (ySides[j] - ySides[j - 1]);
                    if (columns > 0) {
                        taken += columns * layersTaken(xSides[i - 1], ySides[j - 1]);
                    }
                }
            }
            return taken;
        }

        int differentDepths() {
            long depths = 0;
            for (int number = 0; number < pockets; number++) {
                Block pocket = pocketAt(number);
                if (!pocket.failing) {
                    depths |= 1L << pocket.depth;
                }
            }
            return Long.bitCount(depths);
        }

        /** Sorts the sides of the pockets that do not fail, and answers how many there are. */
        private int gatherSides() {
            int sides = 0;
            for (int number = 0; number < pockets; number++) {
                Block pocket = pocketAt(number);
                if (!pocket.failing) {
                    insertSorted(xSides, sides, pocket.left);
                    insertSorted(ySides, sides, pocket.low);
                    insertSorted(xSides, sides + 1, pocket.right);
                    insertSorted(ySides, sides + 1, pocket.high);
                    sides += 2;
                }
            }
            return sides;
        }

        private int layersTaken(int x, int y) {
            long layers = 0;
            for (int number = 0; number < pockets; number++) {
                Block pocket = pocketAt(number);
                if (!pocket.failing && pocket.covers(x, y)) {
                    layers |= pocket.layers();
                }
            }
            return Long.bitCount(layers);
        }

        private static void insertSorted(int[] row, int filled, int value) {
            int at = filled;
            while (at > 0 && row[at - 1] > value) {
                row[at] = row[at - 1];
                at--;
            }
            row[at] = value;
        }
    }
}
