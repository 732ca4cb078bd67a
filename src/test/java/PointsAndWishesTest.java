/** Promises 1 to 11: a new object, point, hint, wish, remove, type, state, wishes, freedom, x, y. */
public final class PointsAndWishesTest {
    private static final int IN_X = 0, IN_Y = 1, AT_HINT = 2;
    private static final int MIN = Integer.MIN_VALUE, MAX = Integer.MAX_VALUE;
    private static final Checks checks = new Checks();

    public static void main(String[] args) {
        promise1();
        promise2();
        promise3();
        promise4Numbers();
        promise4Throws();
        promise5();
        promise5Table();
        promise6();
        promise7Chains();
        promise7AtHint();
        promise7Order();
        promise8();
        promise9();
        promise10();
        promise11();
        axesAreApart();
        checks.end();
    }

    private static PartSketch withPoints(int count) {
        PartSketch sketch = new PartSketch();
        for (int i = 0; i < count; i++) {
            sketch.point(10 * i, 7 * i);
        }
        return sketch;
    }

    private static void promise1() {
        PartSketch sketch = new PartSketch();
        checks.same("WORKS", PartSketch.WORKS, 0);
        checks.same("IDLE", PartSketch.IDLE, 1);
        checks.same("BROKEN", PartSketch.BROKEN, 2);
        checks.same("wishes of a new object", sketch.wishes(), 0);
        checks.same("freedom of a new object", sketch.freedom(), 0);
        checks.same("volume of a new object", sketch.volume(), 0);
        checks.same("price of a new object", sketch.price(), 0);
        checks.outOfBounds("x of a new object", () -> sketch.x(0));
        checks.outOfBounds("fails of a new object", () -> sketch.fails(0));
        PartSketch other = withPoints(2);
        other.wish(AT_HINT, 0, 0, 0);
        checks.same("wishes of another object", sketch.wishes(), 0);
        checks.same("freedom of another object", sketch.freedom(), 0);
    }

    private static void promise2() {
        PartSketch sketch = new PartSketch();
        int[][] wrong = {{101, 0}, {-101, 0}, {0, 101}, {0, -101}, {MIN, 0}, {0, MAX}};
        for (int[] pair : wrong) {
            checks.badArgument("point out of range", () -> sketch.point(pair[0], pair[1]));
        }
        checks.same("freedom after points that threw", sketch.freedom(), 0);
        checks.same("first point", sketch.point(-100, 100), 0);
        checks.same("second point", sketch.point(100, -100), 1);
        checks.same("x of point 0", sketch.x(0), -100);
        checks.same("y of point 0", sketch.y(0), 100);
        checks.same("x of point 1", sketch.x(1), 100);
        checks.same("y of point 1", sketch.y(1), -100);
        for (int i = 2; i < 16; i++) {
            checks.same("point", sketch.point(i, -i), i);
        }
        checks.badState("point 16", () -> sketch.point(0, 0));
        checks.badArgument("point 16 out of range", () -> sketch.point(0, 101));
        checks.outOfBounds("x of point 16", () -> sketch.x(16));
        checks.same("freedom of 16 points", sketch.freedom(), 32);
        checks.same("y of point 15", sketch.y(15), -15);
    }

    private static void promise3() {
        PartSketch sketch = withPoints(2);
        sketch.wish(IN_X, 0, 1, 5);
        sketch.hint(0, 100, -100);
        checks.same("x of the moved point", sketch.x(0), 100);
        checks.same("y of the moved point", sketch.y(0), -100);
        checks.same("x that follows", sketch.x(1), 105);
        checks.same("y that does not hang", sketch.y(1), 7);
        sketch.hint(1, -100, 100);
        checks.same("x that follows still", sketch.x(1), 105);
        checks.same("y of its own hint", sketch.y(1), 100);
        checks.outOfBounds("hint of no point", () -> sketch.hint(2, 0, 0));
        checks.outOfBounds("hint of no point, out of range too", () -> sketch.hint(2, 101, 0));
        checks.outOfBounds("hint of point -1", () -> sketch.hint(-1, 0, 0));
        checks.outOfBounds("hint of the lowest number", () -> sketch.hint(MIN, 0, 0));
        checks.badArgument("hint with x out of range", () -> sketch.hint(0, 101, 0));
        checks.badArgument("hint with y out of range", () -> sketch.hint(0, 0, -101));
        checks.badArgument("hint with y far out of range", () -> sketch.hint(0, 1, MIN));
        checks.same("x after hints that threw", sketch.x(0), 100);
        checks.same("y after hints that threw", sketch.y(0), -100);
    }

    private static void promise4Numbers() {
        PartSketch sketch = withPoints(3);
        checks.same("wish 0", sketch.wish(IN_X, 0, 1, -100), 0);
        checks.same("wish 1", sketch.wish(IN_Y, 2, 1, 100), 1);
        checks.same("wish 2: other and size don't matter", sketch.wish(AT_HINT, 2, 2, MAX), 2);
        checks.same("wish 3: other and size don't matter", sketch.wish(AT_HINT, 1, MIN, MIN), 3);
        checks.same("x asked for", sketch.x(1) - sketch.x(0), -100);
        checks.same("y asked for", sketch.y(1) - sketch.y(2), 100);
    }

    private static void promise4Throws() {
        PartSketch sketch = withPoints(2);
        checks.badArgument("kind 3", () -> sketch.wish(3, 0, 1, 0));
        checks.badArgument("kind -1, no such points", () -> sketch.wish(-1, 8, 9, 0));
        checks.badArgument("size 101", () -> sketch.wish(IN_X, 0, 1, 101));
        checks.badArgument("size -101", () -> sketch.wish(IN_Y, 0, 1, -101));
        checks.badArgument("size out of range and no such point", () -> sketch.wish(IN_X, 0, 7, 101));
        checks.badArgument("the same points", () -> sketch.wish(IN_Y, 1, 1, 0));
        checks.badArgument("the same points, of which there is none", () -> sketch.wish(IN_X, 5, 5, 0));
        checks.outOfBounds("no point one", () -> sketch.wish(IN_X, 2, 0, 0));
        checks.outOfBounds("no point other", () -> sketch.wish(IN_Y, 0, 2, 0));
        checks.outOfBounds("point one is -1", () -> sketch.wish(IN_X, -1, 0, 0));
        checks.outOfBounds("point other is -1", () -> sketch.wish(IN_X, 0, -1, 0));
        checks.outOfBounds("kind 2, no point one", () -> sketch.wish(AT_HINT, 2, 0, 0));
        checks.outOfBounds("kind 2, point one is -1", () -> sketch.wish(AT_HINT, -1, 0, 0));
        checks.same("wishes after wishes that threw", sketch.wishes(), 0);
        checks.same("freedom after wishes that threw", sketch.freedom(), 4);
        for (int i = 0; i < 40; i++) {
            checks.same("wish", sketch.wish(i % 3, i % 2, 1 - i % 2, i), i);
        }
        checks.badState("wish 40", () -> sketch.wish(IN_X, 0, 1, 0));
        checks.badState("wish 40 of the kind 2", () -> sketch.wish(AT_HINT, 0, 0, 0));
        checks.badArgument("wish 40 of the kind 3", () -> sketch.wish(3, 0, 1, 0));
        checks.outOfBounds("wish 40 about no point", () -> sketch.wish(IN_X, 0, 2, 0));
        checks.same("wishes, when full", sketch.wishes(), 40);
        sketch.remove(39);
        checks.same("wish in the place of a removed one", sketch.wish(IN_X, 0, 1, 0), 39);
    }

    private static void promise5() {
        PartSketch sketch = withPoints(3);
        sketch.wish(IN_X, 0, 1, 3);
        sketch.wish(IN_X, 1, 0, -3);
        sketch.wish(IN_X, 0, 1, 4);
        sketch.wish(IN_Y, 1, 2, 9);
        checks.outOfBounds("remove 4", () -> sketch.remove(4));
        checks.outOfBounds("remove -1", () -> sketch.remove(-1));
        checks.same("wishes after removes that threw", sketch.wishes(), 4);
        checks.same("remove a broken one", sketch.remove(2), PartSketch.BROKEN);
        checks.same("remove an idle one", sketch.remove(1), PartSketch.IDLE);
        sketch.wish(IN_X, 0, 1, 4);
        checks.same("remove one that works", sketch.remove(0), PartSketch.WORKS);
        checks.same("wishes after removes", sketch.wishes(), 2);
        checks.same("x by the wish that now works", sketch.x(1), 4);
        checks.same("state of it", sketch.state(1), PartSketch.WORKS);
        checks.same("y by the wish that moved up", sketch.y(2), 16);
        checks.outOfBounds("remove behind the last", () -> sketch.remove(2));
        sketch.remove(0);
        sketch.remove(0);
        checks.outOfBounds("remove of an empty sketch", () -> sketch.remove(0));
        checks.same("freedom without wishes", sketch.freedom(), 6);
    }

    private static void promise5Table() {
        PartSketch sketch = withPoints(3);
        sketch.wish(IN_X, 0, 1, 1);
        sketch.wish(AT_HINT, 0, 0, 0);
        sketch.wish(IN_X, 1, 2, 2);
        sketch.tell(0, 0, 11);
        sketch.tell(0, 2, 22);
        sketch.tell(3, 2, 33);
        sketch.remove(0);
        checks.same("variant 0 tells one less", sketch.tell(0, 1, 22), 1);
        checks.same("choose by the new number", sketch.choose(0), 1);
        checks.same("size by the new number", sketch.type(1, 2), 22);
        checks.same("another variant moved too", sketch.choose(3), 1);
        checks.same("its size", sketch.type(1, 2), 33);
        checks.same("a new wish is not told", sketch.wish(IN_Y, 0, 1, 5), 2);
        checks.same("choose leaves the new wish", sketch.choose(3), 1);
        checks.same("size of the new wish", sketch.type(2, 5), 5);
        sketch.remove(1);
        checks.same("nothing is told any more", sketch.choose(3), 0);
        checks.same("a first size is told", sketch.tell(3, 1, 8), 1);
        sketch.remove(1);
        sketch.wish(IN_Y, 0, 1, 5);
        checks.same("a removed last wish leaves nothing told", sketch.choose(3), 0);
    }

    private static void promise6() {
        PartSketch sketch = withPoints(2);
        sketch.wish(IN_X, 0, 1, 3);
        sketch.wish(AT_HINT, 0, 0, 0);
        checks.same("type answers the size before", sketch.type(0, -100), 3);
        checks.same("x by the typed size", sketch.x(1), -100);
        checks.same("type the other edge", sketch.type(0, 100), -100);
        checks.same("type the same", sketch.type(0, 100), 100);
        checks.outOfBounds("type of no wish", () -> sketch.type(2, 0));
        checks.outOfBounds("type of no wish, out of range too", () -> sketch.type(-1, 101));
        checks.badState("type of the kind 2", () -> sketch.type(1, 0));
        checks.badState("type of the kind 2, out of range too", () -> sketch.type(1, 101));
        checks.badArgument("type 101", () -> sketch.type(0, 101));
        checks.badArgument("type -101", () -> sketch.type(0, -101));
        checks.same("size after types that threw", sketch.type(0, 0), 100);
        checks.same("x by a plumb wish", sketch.x(1), 0);
    }

    private static void promise7Chains() {
        PartSketch sketch = withPoints(4);
        checks.outOfBounds("state of no wish", () -> sketch.state(0));
        sketch.wish(IN_X, 0, 1, 5);
        sketch.wish(IN_X, 2, 3, 6);
        sketch.wish(IN_X, 3, 1, 1);
        sketch.wish(IN_X, 0, 2, -2);
        sketch.wish(IN_X, 2, 0, 1);
        sketch.wish(IN_Y, 2, 0, 1);
        checks.same("state of a first wish", sketch.state(0), PartSketch.WORKS);
        checks.same("state of an unconnected wish", sketch.state(1), PartSketch.WORKS);
        checks.same("state of a wish between two groups", sketch.state(2), PartSketch.WORKS);
        checks.same("state of a wish that holds over others", sketch.state(3), PartSketch.IDLE);
        checks.same("state of a wish that fights", sketch.state(4), PartSketch.BROKEN);
        checks.same("state of a wish in y", sketch.state(5), PartSketch.WORKS);
        checks.outOfBounds("state behind the last", () -> sketch.state(6));
        checks.outOfBounds("state of -1", () -> sketch.state(-1));
        sketch.type(3, -1);
        checks.same("broken by a typed size", sketch.state(3), PartSketch.BROKEN);
        sketch.type(0, 6);
        checks.same("idle by a size typed ahead of it", sketch.state(3), PartSketch.IDLE);
        checks.same("so is the one that fought", sketch.state(4), PartSketch.IDLE);
    }

    private static void promise7AtHint() {
        PartSketch sketch = new PartSketch();
        sketch.point(0, 0);
        sketch.point(4, 9);
        sketch.point(1, 1);
        sketch.wish(IN_X, 0, 1, 4);
        sketch.wish(AT_HINT, 0, 0, 0);
        sketch.wish(AT_HINT, 1, 0, 0);
        checks.same("at its hint in x by others, free in y: works", sketch.state(2), PartSketch.WORKS);
        sketch.wish(IN_Y, 0, 1, 9);
        checks.same("two points at their hints hold a wish", sketch.state(3), PartSketch.IDLE);
        sketch.wish(IN_Y, 0, 1, 8);
        checks.same("two points at their hints break a wish", sketch.state(4), PartSketch.BROKEN);
        sketch.wish(AT_HINT, 1, 0, 0);
        checks.same("at its hint twice", sketch.state(5), PartSketch.IDLE);
        sketch.hint(1, 5, 9);
        checks.same("a hint that fights in x alone", sketch.state(2), PartSketch.BROKEN);
        checks.same("a broken one doesn't count in y", sketch.state(3), PartSketch.WORKS);
        checks.same("nor the one behind it", sketch.state(5), PartSketch.BROKEN);
        checks.same("freedom: a broken one doesn't count", sketch.freedom(), 2);
        sketch.hint(1, 4, 7);
        sketch.remove(2);
        checks.same("a hint that fights in y alone", sketch.state(4), PartSketch.BROKEN);
        sketch.remove(3);
        sketch.hint(1, 4, 9);
        checks.same("holds for x and y by others", sketch.state(3), PartSketch.IDLE);
        checks.same("a free point at its own hint works", sketch.wish(AT_HINT, 2, 0, 0), 4);
        checks.same("though it was there already", sketch.state(4), PartSketch.WORKS);
    }

    private static void promise7Order() {
        PartSketch sketch = withPoints(2);
        sketch.wish(IN_X, 0, 1, 1);
        sketch.wish(IN_X, 0, 1, 2);
        sketch.wish(IN_X, 0, 1, 2);
        checks.same("the one ahead wins", sketch.state(1), PartSketch.BROKEN);
        checks.same("a broken one makes none idle", sketch.state(2), PartSketch.BROKEN);
        sketch.remove(0);
        checks.same("then the next wins", sketch.state(0), PartSketch.WORKS);
        checks.same("and the one behind is idle", sketch.state(1), PartSketch.IDLE);
    }

    private static void promise8() {
        PartSketch sketch = withPoints(2);
        sketch.wish(IN_X, 0, 1, 1);
        sketch.wish(IN_X, 0, 1, 2);
        checks.same("wishes count broken ones too", sketch.wishes(), 2);
        sketch.remove(0);
        checks.same("wishes after a remove", sketch.wishes(), 1);
    }

    private static void promise9() {
        PartSketch sketch = withPoints(4);
        checks.same("four points", sketch.freedom(), 8);
        sketch.wish(IN_X, 0, 1, 1);
        checks.same("a wish takes one", sketch.freedom(), 7);
        sketch.wish(IN_X, 1, 0, -1);
        checks.same("an idle wish takes none", sketch.freedom(), 7);
        sketch.wish(IN_X, 1, 0, 1);
        checks.same("a broken wish takes none", sketch.freedom(), 7);
        sketch.wish(AT_HINT, 1, 0, 0);
        checks.same("a point at its hint takes its groups", sketch.freedom(), 5);
        sketch.wish(IN_X, 1, 3, 0);
        checks.same("a point that hangs on such a group", sketch.freedom(), 4);
        sketch.wish(AT_HINT, 3, 0, 0);
        checks.same("a broken hint", sketch.freedom(), 4);
        sketch.remove(3);
        checks.same("two groups in x, four in y, less one at its hint in both", sketch.freedom(), 4);
    }

    private static void promise10() {
        PartSketch sketch = withPoints(4);
        checks.outOfBounds("x of no point", () -> sketch.x(4));
        checks.outOfBounds("x of -1", () -> sketch.x(-1));
        checks.outOfBounds("x of the highest number", () -> sketch.x(MAX));
        sketch.wish(IN_X, 3, 2, 5);
        sketch.wish(IN_X, 2, 1, 6);
        checks.same("x of the lowest in its group", sketch.x(1), 10);
        checks.same("x that follows", sketch.x(2), 4);
        checks.same("x that follows over another", sketch.x(3), -1);
        checks.same("x of another group", sketch.x(0), 0);
        sketch.wish(AT_HINT, 3, 0, 0);
        checks.same("x from the point at its hint", sketch.x(1), 41);
        sketch.wish(AT_HINT, 1, 0, 0);
        checks.same("a broken hint moves nothing in x", sketch.x(1), 41);
        checks.same("nor in y", sketch.y(1), 7);
        sketch.wish(IN_X, 0, 3, 8);
        checks.same("x of a point that is tied to one at its hint", sketch.x(0), 22);
        checks.same("which stays there", sketch.x(3), 30);
    }

    private static void promise11() {
        PartSketch sketch = withPoints(4);
        checks.outOfBounds("y of no point", () -> sketch.y(4));
        checks.outOfBounds("y of -1", () -> sketch.y(-1));
        checks.outOfBounds("y of the lowest number", () -> sketch.y(MIN));
        sketch.wish(IN_Y, 3, 2, 5);
        sketch.wish(IN_Y, 2, 1, 6);
        checks.same("y of the lowest in its group", sketch.y(1), 7);
        checks.same("y that follows", sketch.y(2), 1);
        checks.same("y that follows over another", sketch.y(3), -4);
        checks.same("y of another group", sketch.y(0), 0);
        sketch.wish(AT_HINT, 3, 0, 0);
        checks.same("y from the point at its hint", sketch.y(1), 32);
        sketch.hint(3, 0, -100);
        checks.same("y from the moved hint", sketch.y(1), -89);
        sketch.wish(IN_Y, 0, 1, -11);
        checks.same("y of a point that is tied to these", sketch.y(0), -78);
        checks.same("y of the point at its hint stays", sketch.y(3), -100);
    }

    private static void axesAreApart() {
        PartSketch sketch = withPoints(2);
        sketch.wish(IN_X, 0, 1, 50);
        checks.same("a wish in x leaves y", sketch.y(1), 7);
        sketch.wish(IN_Y, 0, 1, 60);
        checks.same("a wish in y leaves x", sketch.x(1), 50);
        checks.same("both work", sketch.state(1), PartSketch.WORKS);
    }
}
