import java.util.ArrayList;
import java.util.HashSet;
import java.util.List;
import java.util.Set;

/**
 * The document written out as plainly and slowly as can be, to be compared with the class: wishes
 * are rows of equations that are eliminated, cells are counted one by one, nothing is remembered.
 * An answer is a number, or one of the three below for an exception.
 */
final class Model {
    static final int OUT_OF_BOUNDS = 1_000_000_001, BAD_ARGUMENT = 1_000_000_002, BAD_STATE = 1_000_000_003;

    private static final int SIZE = 16;

    private static final class Wish {
        int kind, one, other, size;
        Integer[] told = new Integer[4];
    }

    private static final class Box {
        int one, other, depth, in;
    }

    /** Rows of 16 coefficients and a right side; each has a leading 1 that no other row has. */
    private static final class Equations {
        List<double[]> rows = new ArrayList<>();

        /** What the row comes to by those that there are. */
        double[] reduce(double[] row) {
            double[] left = row.clone();
            for (double[] by : rows) {
                int lead = lead(by);
                double times = left[lead];
                for (int i = 0; i <= SIZE; i++) {
                    left[i] -= times * by[i];
                }
            }
            return left;
        }

        int judge(double[] row) {
            double[] left = reduce(row);
            if (lead(left) < SIZE) {
                return 0;
            }
            return left[SIZE] == 0 ? 1 : 2;
        }

        void add(double[] row) {
            double[] left = reduce(row);
            int lead = lead(left);
            if (lead == SIZE) {
                return;
            }
            double by = left[lead];
            for (int i = 0; i <= SIZE; i++) {
                left[i] /= by;
            }
            for (double[] old : rows) {
                double times = old[lead];
                for (int i = 0; i <= SIZE; i++) {
                    old[i] -= times * left[i];
                }
            }
            rows.add(left);
        }

        private static int lead(double[] row) {
            int at = 0;
            while (at < SIZE && row[at] == 0) {
                at++;
            }
            return at;
        }
    }

    private final List<int[]> hints = new ArrayList<>();
    private final List<Wish> wishes = new ArrayList<>();
    private final List<Box> pockets = new ArrayList<>();
    private Box base = null;

    private static boolean out(int number, int least, int most) {
        return number < least || number > most;
    }

    private boolean noPoint(int point) {
        return out(point, 0, hints.size() - 1);
    }

    private boolean noWish(int wish) {
        return out(wish, 0, wishes.size() - 1);
    }

    int point(int x, int y) {
        if (out(x, -100, 100) || out(y, -100, 100)) {
            return BAD_ARGUMENT;
        }
        if (hints.size() == 16) {
            return BAD_STATE;
        }
        hints.add(new int[] {x, y});
        return hints.size() - 1;
    }

    int hint(int point, int x, int y) {
        if (noPoint(point)) {
            return OUT_OF_BOUNDS;
        }
        if (out(x, -100, 100) || out(y, -100, 100)) {
            return BAD_ARGUMENT;
        }
        hints.set(point, new int[] {x, y});
        return 0;
    }

    int wish(int kind, int one, int other, int size) {
        boolean sized = kind == 0 || kind == 1;
        if (!sized && kind != 2 || sized && (out(size, -100, 100) || one == other)) {
            return BAD_ARGUMENT;
        }
        if (noPoint(one) || sized && noPoint(other)) {
            return OUT_OF_BOUNDS;
        }
        if (wishes.size() == 40) {
            return BAD_STATE;
        }
        Wish wish = new Wish();
        wish.kind = kind;
        wish.one = one;
        wish.other = other;
        wish.size = size;
        wishes.add(wish);
        return wishes.size() - 1;
    }

    int remove(int wish) {
        if (noWish(wish)) {
            return OUT_OF_BOUNDS;
        }
        int until = state(wish);
        wishes.remove(wish);
        return until;
    }

    int type(int wish, int size) {
        if (noWish(wish)) {
            return OUT_OF_BOUNDS;
        }
        Wish found = wishes.get(wish);
        if (found.kind == 2) {
            return BAD_STATE;
        }
        if (out(size, -100, 100)) {
            return BAD_ARGUMENT;
        }
        int before = found.size;
        found.size = size;
        return before;
    }

    int state(int wish) {
        return noWish(wish) ? OUT_OF_BOUNDS : states()[wish];
    }

    int wishes() {
        return wishes.size();
    }

    private static double[] difference(Wish wish) {
        double[] row = new double[SIZE + 1];
        row[wish.one] = -1;
        row[wish.other] = 1;
        row[SIZE] = wish.size;
        return row;
    }

    private double[] atHint(int point, int axis) {
        double[] row = new double[SIZE + 1];
        row[point] = 1;
        row[SIZE] = hints.get(point)[axis];
        return row;
    }

    private int[] states() {
        Equations[] axes = {new Equations(), new Equations()};
        int[] states = new int[wishes.size()];
        for (int i = 0; i < states.length; i++) {
            Wish wish = wishes.get(i);
            if (wish.kind < 2) {
                states[i] = axes[wish.kind].judge(difference(wish));
                if (states[i] == 0) {
                    axes[wish.kind].add(difference(wish));
                }
                continue;
            }
            int inX = axes[0].judge(atHint(wish.one, 0));
            int inY = axes[1].judge(atHint(wish.one, 1));
            states[i] = inX == 2 || inY == 2 ? 2 : inX == 1 && inY == 1 ? 1 : 0;
            if (states[i] == 0) {
                axes[0].add(atHint(wish.one, 0));
                axes[1].add(atHint(wish.one, 1));
            }
        }
        return states;
    }

    private boolean atHintByWish(int point, int[] states) {
        for (int i = 0; i < states.length; i++) {
            if (wishes.get(i).kind == 2 && wishes.get(i).one == point && states[i] != 2) {
                return true;
            }
        }
        return false;
    }

    /** Which points hang together with a point, and how far each is from it; null: it does not. */
    private Integer[] hanging(int from, int axis, int[] states) {
        Integer[] away = new Integer[SIZE];
        away[from] = 0;
        boolean grown = true;
        while (grown) {
            grown = false;
            for (int i = 0; i < states.length; i++) {
                Wish wish = wishes.get(i);
                if (wish.kind != axis || states[i] == 2) {
                    continue;
                }
                if (away[wish.one] != null && away[wish.other] == null) {
                    away[wish.other] = away[wish.one] + wish.size;
                    grown = true;
                } else if (away[wish.one] == null && away[wish.other] != null) {
                    away[wish.one] = away[wish.other] - wish.size;
                    grown = true;
                }
            }
        }
        return away;
    }

    private int freeGroups(int axis) {
        int[] states = states();
        boolean[] seen = new boolean[SIZE];
        int free = 0;
        for (int point = 0; point < hints.size(); point++) {
            if (seen[point]) {
                continue;
            }
            Integer[] away = hanging(point, axis, states);
            boolean fixed = false;
            for (int other = 0; other < hints.size(); other++) {
                if (away[other] != null) {
                    seen[other] = true;
                    fixed |= atHintByWish(other, states);
                }
            }
            free += fixed ? 0 : 1;
        }
        return free;
    }

    int freedom() {
        return freeGroups(0) + freeGroups(1);
    }

    private int place(int point, int axis) {
        int[] states = states();
        Integer[] away = hanging(point, axis, states);
        int decides = -1;
        for (int other = hints.size() - 1; other >= 0; other--) {
            if (away[other] != null) {
                decides = other;
            }
        }
        for (int other = 0; other < hints.size(); other++) {
            if (away[other] != null && atHintByWish(other, states)) {
                decides = other;
            }
        }
        return hints.get(decides)[axis] - away[decides];
    }

    int x(int point) {
        return noPoint(point) ? OUT_OF_BOUNDS : place(point, 0);
    }

    int y(int point) {
        return noPoint(point) ? OUT_OF_BOUNDS : place(point, 1);
    }

    int tell(int variant, int wish, int size) {
        if (out(variant, 0, 3) || out(size, -100, 100)) {
            return BAD_ARGUMENT;
        }
        if (noWish(wish)) {
            return OUT_OF_BOUNDS;
        }
        if (wishes.get(wish).kind == 2) {
            return BAD_STATE;
        }
        wishes.get(wish).told[variant] = size;
        int tells = 0;
        for (Wish each : wishes) {
            tells += each.told[variant] == null ? 0 : 1;
        }
        return tells;
    }

    int choose(int variant) {
        if (out(variant, 0, 3)) {
            return BAD_ARGUMENT;
        }
        int others = 0;
        for (Wish each : wishes) {
            Integer told = each.told[variant];
            if (told != null) {
                others += told.intValue() == each.size ? 0 : 1;
                each.size = told;
            }
        }
        return others;
    }

    int setBase(int one, int other, int height) {
        if (noPoint(one) || noPoint(other)) {
            return OUT_OF_BOUNDS;
        }
        if (out(height, 1, 50)) {
            return BAD_ARGUMENT;
        }
        base = new Box();
        base.one = one;
        base.other = other;
        base.depth = height;
        return baseFails() ? 0 : 1;
    }

    int pocket(int one, int other, int depth, int in) {
        if (noPoint(one) || noPoint(other) || out(in, -1, pockets.size() - 1)) {
            return OUT_OF_BOUNDS;
        }
        if (out(depth, 1, 50)) {
            return BAD_ARGUMENT;
        }
        if (base == null || pockets.size() == 8) {
            return BAD_STATE;
        }
        Box pocket = new Box();
        pocket.one = one;
        pocket.other = other;
        pocket.depth = depth;
        pocket.in = in;
        pockets.add(pocket);
        return pockets.size() - 1;
    }

    /** The lesser x, the greater x, the lesser y, the greater y. */
    private int[] sides(Box box) {
        int x1 = place(box.one, 0);
        int x2 = place(box.other, 0);
        int y1 = place(box.one, 1);
        int y2 = place(box.other, 1);
        return new int[] {Math.min(x1, x2), Math.max(x1, x2), Math.min(y1, y2), Math.max(y1, y2)};
    }

    private static boolean isNone(int[] sides) {
        return sides[1] - sides[0] == 0 || sides[3] - sides[2] == 0;
    }

    private boolean baseFails() {
        return isNone(sides(base));
    }

    private int depthOfBottom(int pocket) {
        return pocket == -1 ? 0 : pockets.get(pocket).depth + depthOfBottom(pockets.get(pocket).in);
    }

    private boolean doesFail(int number) {
        Box pocket = pockets.get(number);
        int[] own = sides(pocket);
        int[] around = sides(pocket.in == -1 ? base : pockets.get(pocket.in));
        return isNone(own)
                || own[0] < around[0] || own[1] > around[1] || own[2] < around[2] || own[3] > around[3]
                || (pocket.in == -1 ? baseFails() : doesFail(pocket.in))
                || depthOfBottom(number) >= base.depth;
    }

    int fails(int pocket) {
        if (out(pocket, 0, pockets.size() - 1)) {
            return OUT_OF_BOUNDS;
        }
        return doesFail(pocket) ? 1 : 0;
    }

    private int whole() {
        if (base == null) {
            return 0;
        }
        int[] sides = sides(base);
        return (sides[1] - sides[0]) * (sides[3] - sides[2]) * base.depth;
    }

    /** How many columns of cells the base has. */
    int columns() {
        return base == null ? 0 : whole() / base.depth;
    }

    private int taken() {
        if (whole() == 0) {
            return 0;
        }
        int[] all = sides(base);
        boolean[][][] gone = new boolean[all[1] - all[0]][all[3] - all[2]][base.depth];
        int taken = 0;
        for (int number = 0; number < pockets.size(); number++) {
            if (doesFail(number)) {
                continue;
            }
            int[] sides = sides(pockets.get(number));
            int top = depthOfBottom(pockets.get(number).in);
            for (int x = sides[0]; x < sides[1]; x++) {
                for (int y = sides[2]; y < sides[3]; y++) {
                    for (int z = top; z < top + pockets.get(number).depth; z++) {
                        taken += gone[x - all[0]][y - all[2]][z] ? 0 : 1;
                        gone[x - all[0]][y - all[2]][z] = true;
                    }
                }
            }
        }
        return taken;
    }

    int volume() {
        return whole() - taken();
    }

    int price() {
        if (whole() == 0) {
            return 0;
        }
        Set<Integer> depths = new HashSet<>();
        for (int number = 0; number < pockets.size(); number++) {
            if (!doesFail(number)) {
                depths.add(pockets.get(number).depth);
            }
        }
        return 2 * whole() + taken() + 100 * depths.size();
    }
}
