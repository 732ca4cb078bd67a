/** Promises 14 to 18: setBase, pocket, fails, volume, price. */
public final class BodyTest {
    private static final Checks checks = new Checks();

    public static void main(String[] args) {
        promise14();
        promise14Throws();
        promise15();
        promise15Throws();
        promise16Rectangles();
        promise16Depths();
        promise16Base();
        promise17();
        promise17Overlaps();
        promise18();
        bodyFollowsTheSketch();
        largestBody();
        checks.end();
    }

    /** Points 0 and 1 span 20 by 10; 2 and 3 span 6 by 6 in it; 4 and 5 span 2 by 2 in that. */
    private static PartSketch withPoints() {
        PartSketch sketch = new PartSketch();
        sketch.point(0, 0);
        sketch.point(20, 10);
        sketch.point(2, 2);
        sketch.point(8, 8);
        sketch.point(4, 4);
        sketch.point(6, 6);
        return sketch;
    }

    private static PartSketch withBase(int height) {
        PartSketch sketch = withPoints();
        sketch.setBase(0, 1, height);
        return sketch;
    }

    private static void promise14() {
        PartSketch sketch = withPoints();
        checks.yes("a base", sketch.setBase(0, 1, 1));
        checks.same("volume of the base", sketch.volume(), 200);
        checks.yes("a base the other way round", sketch.setBase(1, 0, 50));
        checks.same("volume of the other base", sketch.volume(), 10000);
        checks.no("a base of one point", sketch.setBase(1, 1, 5));
        checks.same("volume of a base that fails", sketch.volume(), 0);
        sketch.point(0, 7);
        sketch.point(7, 0);
        checks.no("a base without width", sketch.setBase(0, 6, 5));
        checks.no("a base without depth in y", sketch.setBase(0, 7, 5));
        checks.yes("a base again", sketch.setBase(6, 7, 5));
        checks.same("volume of it", sketch.volume(), 245);
        sketch.setBase(0, 1, 6);
        sketch.pocket(2, 3, 3, -1);
        checks.yes("pockets stay, base too low for them", sketch.setBase(0, 1, 3));
        checks.yes("the pocket fails", sketch.fails(0));
        checks.yes("a higher base", sketch.setBase(0, 1, 4));
        checks.no("the pocket does not fail", sketch.fails(0));
    }

    private static void promise14Throws() {
        PartSketch sketch = withPoints();
        checks.outOfBounds("no point one", () -> sketch.setBase(6, 0, 1));
        checks.outOfBounds("no point other", () -> sketch.setBase(0, 6, 1));
        checks.outOfBounds("point one is -1", () -> sketch.setBase(-1, 0, 1));
        checks.outOfBounds("point other is -1", () -> sketch.setBase(0, -1, 1));
        checks.outOfBounds("no point and no height", () -> sketch.setBase(0, 6, 0));
        checks.badArgument("height 0", () -> sketch.setBase(0, 1, 0));
        checks.badArgument("height 51", () -> sketch.setBase(0, 1, 51));
        checks.badState("no base was set", () -> sketch.pocket(2, 3, 1, -1));
        sketch.setBase(0, 1, 2);
        checks.badArgument("height 51 over a base", () -> sketch.setBase(2, 3, 51));
        checks.outOfBounds("no point over a base", () -> sketch.setBase(2, 6, 5));
        checks.same("volume after bases that threw", sketch.volume(), 400);
    }

    private static void promise15() {
        PartSketch sketch = withBase(50);
        checks.same("pocket 0", sketch.pocket(2, 3, 1, -1), 0);
        checks.same("pocket 1", sketch.pocket(3, 2, 50, 0), 1);
        checks.same("a pocket of one point", sketch.pocket(2, 2, 1, 0), 2);
        for (int i = 3; i < 8; i++) {
            checks.same("pocket", sketch.pocket(2, 3, 1, i - 1), i);
        }
        checks.no("pocket 0 does not fail", sketch.fails(0));
        checks.yes("a pocket that fails stands", sketch.fails(1));
    }

    private static void promise15Throws() {
        PartSketch sketch = withPoints();
        checks.badState("no base", () -> sketch.pocket(2, 3, 1, -1));
        checks.badArgument("no base and no depth", () -> sketch.pocket(2, 3, 0, -1));
        checks.outOfBounds("no base and no point", () -> sketch.pocket(2, 6, 1, -1));
        checks.outOfBounds("no base and no pocket", () -> sketch.pocket(2, 3, 1, 0));
        sketch.setBase(0, 1, 9);
        checks.outOfBounds("no point one", () -> sketch.pocket(6, 3, 1, -1));
        checks.outOfBounds("no point other", () -> sketch.pocket(2, 6, 1, -1));
        checks.outOfBounds("point one is -1", () -> sketch.pocket(-1, 3, 1, -1));
        checks.outOfBounds("point other is -1", () -> sketch.pocket(2, -1, 1, -1));
        checks.outOfBounds("in no pocket", () -> sketch.pocket(2, 3, 1, 0));
        checks.outOfBounds("in -2", () -> sketch.pocket(2, 3, 1, -2));
        checks.outOfBounds("in the lowest number", () -> sketch.pocket(2, 3, 1, Integer.MIN_VALUE));
        checks.outOfBounds("in no pocket and no depth", () -> sketch.pocket(2, 3, 0, 0));
        checks.badArgument("depth 0", () -> sketch.pocket(2, 3, 0, -1));
        checks.badArgument("depth 51", () -> sketch.pocket(2, 3, 51, -1));
        checks.outOfBounds("no pocket by calls that threw", () -> sketch.fails(0));
        for (int i = 0; i < 8; i++) {
            sketch.pocket(2, 3, 1, -1);
        }
        checks.badState("pocket 8", () -> sketch.pocket(2, 3, 1, -1));
        checks.badArgument("pocket 8 without a depth", () -> sketch.pocket(2, 3, 0, -1));
        checks.outOfBounds("pocket 8 in itself", () -> sketch.pocket(2, 3, 1, 8));
        checks.outOfBounds("no pocket 8", () -> sketch.fails(8));
        checks.same("volume after pockets that threw", sketch.volume(), 200 * 9 - 36);
    }

    private static void promise16Rectangles() {
        PartSketch sketch = withBase(9);
        checks.outOfBounds("no pocket 0", () -> sketch.fails(0));
        checks.outOfBounds("no pocket -1", () -> sketch.fails(-1));
        sketch.pocket(2, 3, 1, -1);
        sketch.pocket(4, 5, 1, 0);
        sketch.pocket(0, 1, 1, -1);
        checks.no("in the base", sketch.fails(0));
        checks.no("in another pocket", sketch.fails(1));
        checks.no("touching the base all round", sketch.fails(2));
        int[][] beyond = {{1, 4, 1}, {4, 1, 1}};
        for (int[] row : beyond) {
            sketch.hint(4, row[0], row[1]);
            checks.yes("lies beyond a lower side", sketch.fails(1));
        }
        sketch.hint(4, 2, 2);
        checks.no("touches the lower sides", sketch.fails(1));
        sketch.hint(5, 9, 8);
        checks.yes("lies beyond the right side", sketch.fails(1));
        sketch.hint(5, 8, 9);
        checks.yes("lies beyond the upper side", sketch.fails(1));
        sketch.hint(5, 8, 8);
        checks.no("the same rectangle", sketch.fails(1));
        sketch.hint(5, 2, 8);
        checks.yes("no width", sketch.fails(1));
        sketch.hint(5, 8, 2);
        checks.yes("no depth in y", sketch.fails(1));
        sketch.hint(5, 8, 8);
        sketch.hint(3, 21, 8);
        checks.yes("what it is in lies beyond the base", sketch.fails(0));
        checks.yes("what it is in fails", sketch.fails(1));
        checks.no("another pocket does not", sketch.fails(2));
        checks.outOfBounds("no pocket 3", () -> sketch.fails(3));
    }

    private static void promise16Depths() {
        PartSketch sketch = withBase(6);
        sketch.pocket(2, 3, 6, -1);
        sketch.pocket(2, 3, 5, -1);
        sketch.pocket(2, 3, 2, -1);
        sketch.pocket(4, 5, 3, 2);
        sketch.pocket(4, 5, 4, 2);
        sketch.pocket(4, 5, 1, 3);
        checks.yes("as deep as the base is high", sketch.fails(0));
        checks.no("one less", sketch.fails(1));
        checks.no("together one less", sketch.fails(3));
        checks.yes("together as deep as the base is high", sketch.fails(4));
        checks.yes("three together", sketch.fails(5));
        checks.no("a pocket in it that fails does not matter", sketch.fails(2));
        checks.same("taken out", sketch.volume(), 1200 - 36 * 5);
        sketch.setBase(0, 1, 7);
        checks.no("three together in a higher base", sketch.fails(5));
    }

    private static void promise16Base() {
        PartSketch sketch = withBase(6);
        sketch.pocket(2, 3, 1, -1);
        sketch.pocket(4, 5, 1, 0);
        sketch.setBase(1, 1, 6);
        checks.yes("the base fails", sketch.fails(0));
        checks.yes("the base fails, one deeper", sketch.fails(1));
        sketch.setBase(0, 3, 6);
        checks.no("a base just large enough", sketch.fails(0));
        sketch.setBase(4, 1, 6);
        checks.yes("a base that begins too late", sketch.fails(0));
        checks.yes("what it is in fails", sketch.fails(1));
    }

    private static void promise17() {
        PartSketch sketch = withPoints();
        checks.same("volume without a base", sketch.volume(), 0);
        sketch.setBase(0, 1, 6);
        checks.same("volume of the base", sketch.volume(), 1200);
        sketch.pocket(2, 3, 2, -1);
        checks.same("volume with a pocket", sketch.volume(), 1200 - 72);
        sketch.pocket(4, 5, 3, 0);
        checks.same("volume with a pocket in it", sketch.volume(), 1200 - 72 - 12);
        sketch.pocket(4, 5, 1, 1);
        checks.same("a pocket that fails takes nothing", sketch.volume(), 1200 - 72 - 12);
        sketch.setBase(0, 0, 6);
        checks.same("volume of a base that fails", sketch.volume(), 0);
    }

    private static void promise17Overlaps() {
        PartSketch sketch = withPoints();
        sketch.point(5, 3);
        sketch.point(12, 9);
        sketch.setBase(0, 1, 6);
        sketch.pocket(2, 3, 2, -1);
        sketch.pocket(6, 7, 4, -1);
        checks.same("cells are taken once", sketch.volume(), 1200 - 72 - 168 + 3 * 5 * 2);
        sketch.pocket(4, 5, 1, 0);
        checks.same("a pocket partly in what another took", sketch.volume(), 1200 - 72 - 168 + 30 - 2);
        sketch.pocket(2, 3, 2, -1);
        checks.same("the same pocket twice", sketch.volume(), 1200 - 72 - 168 + 30 - 2);
        sketch.pocket(0, 1, 5, -1);
        checks.same("nearly all", sketch.volume(), 200);
    }

    private static void promise18() {
        PartSketch sketch = withPoints();
        checks.same("price without a base", sketch.price(), 0);
        sketch.setBase(0, 1, 6);
        checks.same("price of the base", sketch.price(), 2400);
        sketch.pocket(2, 3, 2, -1);
        checks.same("price with a pocket", sketch.price(), 2400 + 72 + 100);
        sketch.pocket(4, 5, 2, 0);
        checks.same("the same depth, though deeper down", sketch.price(), 2400 + 80 + 100);
        sketch.pocket(4, 5, 1, 1);
        checks.same("another depth", sketch.price(), 2400 + 84 + 200);
        sketch.pocket(4, 5, 1, 2);
        checks.same("a pocket that fails costs nothing", sketch.price(), 2400 + 84 + 200);
        sketch.pocket(4, 5, 3, 2);
        checks.same("nor does its depth", sketch.price(), 2400 + 84 + 200);
        sketch.pocket(4, 5, 4, -1);
        checks.same("a depth of cells that are taken already", sketch.price(), 2400 + 84 + 300);
        sketch.setBase(0, 0, 6);
        checks.same("price of a base that fails", sketch.price(), 0);
    }

    private static void bodyFollowsTheSketch() {
        PartSketch sketch = withBase(4);
        sketch.pocket(2, 3, 1, -1);
        sketch.wish(0, 0, 1, 30);
        checks.same("volume by a wish", sketch.volume(), 30 * 10 * 4 - 36);
        sketch.type(0, -5);
        checks.same("volume by a typed size", sketch.volume(), 200);
        checks.yes("a pocket that fails by it", sketch.fails(0));
        sketch.tell(1, 0, 8);
        sketch.choose(1);
        checks.same("volume by a variant", sketch.volume(), 8 * 10 * 4 - 36);
        sketch.remove(0);
        checks.same("price after a remove", sketch.price(), 1600 + 36 + 100);
        sketch.wish(1, 0, 1, 0);
        checks.same("a base that fails by a wish", sketch.price(), 0);
    }

    /** Two chains of wishes that go apart span 1600, which no chain of its own does. */
    private static void largestBody() {
        PartSketch sketch = new PartSketch();
        for (int i = 0; i < 16; i++) {
            sketch.point(i % 2 == 0 ? -100 : 100, i % 2 == 0 ? -100 : 100);
        }
        for (int i = 0; i < 14; i++) {
            int size = i % 2 == 0 ? -100 : 100;
            sketch.wish(0, i, i + 2, size);
            sketch.wish(1, i, i + 2, size);
        }
        checks.same("lowest x", sketch.x(14), -800);
        checks.same("highest y", sketch.y(15), 800);
        checks.yes("the largest base", sketch.setBase(14, 15, 50));
        sketch.pocket(14, 15, 49, -1);
        checks.same("volume of the largest base", sketch.volume(), 1600 * 1600);
        checks.same("price of the largest base", sketch.price(), 1600 * 1600 * 149 + 100);
        for (int i = 1; i < 8; i++) {
            sketch.pocket(14, 15, 50, i - 1);
        }
        checks.yes("far deeper than the base", sketch.fails(7));
        checks.same("volume with pockets that fail", sketch.volume(), 1600 * 1600);
    }
}
