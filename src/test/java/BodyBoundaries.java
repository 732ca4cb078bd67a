/** Boundary cases of promises 14 to 18 and of what the terms say of the body. */
final class BodyBoundaries {
    private static final int IN_X = 0, IN_Y = 1;

    private final Checks checks;
    private final Document document;

    BodyBoundaries(Checks checks, Document document) {
        this.checks = checks;
        this.document = document;
    }

    void run() {
        baseTakesEveryHeight();
        baseTakesFirstAndLastPoint();
        baseFailsWithoutWidthOrDepth();
        baseIsReplaced();
        pocketsStayUnderAnotherBase();
        thereAre8Pockets();
        pocketTakesEveryDepth();
        pocketIsInTheBaseOrALowerOne();
        pocketInABaseThatFails();
        rectanglesLieEitherWay();
        pocketWithoutRectangle();
        pocketTouchesEachSide();
        pocketInAPocketTouchesEachSide();
        pocketBesideWhatItIsIn();
        pocketInOneThatFails();
        pocketInABaseThatComesToFail();
        depthsTogetherBelowTheHeight();
        depthsOfEightTogether();
        depthsBesideDoNotAdd();
        volumeFromNone();
        volumeOfOneCell();
        volumeCountsCellsOnce();
        volumeOfCellsSideBySide();
        volumeFromTheBottomDown();
        volumeRoundTheOrigin();
        volumeOfPocketsThatFail();
        priceFromNone();
        priceOfOneCell();
        priceOfDepths();
        priceOfPocketsThatFail();
        bodyFollowsEachChange();
    }

    /** Points by their hints: x and y of each in turn. */
    private static PartSketch at(int... places) {
        PartSketch sketch = new PartSketch();
        for (int i = 0; i + 1 < places.length; i += 2) {
            sketch.point(places[i], places[i + 1]);
        }
        return sketch;
    }

    /** A base of 20 by 10 between points 0 and 1, and points 2 and 3 at 5, 3 and 9, 8. */
    private static PartSketch withBase(int height) {
        PartSketch sketch = at(0, 0, 20, 10, 5, 3, 9, 8);
        sketch.setBase(0, 1, height);
        return sketch;
    }

    private void baseTakesEveryHeight() {
        document.terms("The body.");
        document.terms("It may have a base: the rectangle between two points, with a height from 1 to 50.");
        document.promise(14, "- `height`: 1 to 50");
        document.promise(14, "Returns whether it does not fail.");
        PartSketch sketch = at(0, 0, 3, 2);
        for (int height = 1; height <= 50; height++) {
            checks.yes("a base", sketch.setBase(0, 1, height));
            checks.same("volume of the base", sketch.volume(), 6 * height);
            checks.same("price of the base", sketch.price(), 12 * height);
        }
        checks.badArgument("height 0", () -> sketch.setBase(0, 1, 0));
        checks.badArgument("height 51", () -> sketch.setBase(0, 1, 51));
        checks.same("volume still", sketch.volume(), 300);
    }

    private void baseTakesFirstAndLastPoint() {
        document.promise(14, "- `one`: the number of a point");
        document.promise(14, "- `other`: the number of a point");
        PartSketch sketch = new PartSketch();
        for (int i = 0; i < 16; i++) {
            int next = i;
            checks.outOfBounds("a point to come", () -> sketch.setBase(0, next, 1));
            sketch.point(2 * i, 3 * i);
        }
        checks.yes("the first and the last", sketch.setBase(0, 15, 1));
        checks.same("volume", sketch.volume(), 30 * 45);
        checks.yes("the last and the last but one", sketch.setBase(15, 14, 1));
        checks.same("volume of these", sketch.volume(), 6);
    }

    private void baseFailsWithoutWidthOrDepth() {
        document.terms("A base fails if its rectangle has no width or no depth in y.");
        int[][] others = {{5, 7}, {6, 7}, {4, 7}, {5, 8}, {5, 6}, {6, 8}, {4, 6}, {6, 6}, {4, 8}};
        for (int[] other : others) {
            PartSketch sketch = at(5, 7, other[0], other[1]);
            boolean stands = other[0] != 5 && other[1] != 7;
            String what = "a base from 5, 7 to " + other[0] + ", " + other[1];
            checks.same(what, sketch.setBase(0, 1, 50) ? 1 : 0, stands ? 1 : 0);
            checks.same(what + ", volume", sketch.volume(), stands ? 50 : 0);
            checks.same(what + ", price", sketch.price(), stands ? 100 : 0);
        }
        PartSketch point = at(5, 7);
        checks.no("a base of one point", point.setBase(0, 0, 1));
    }

    private void baseIsReplaced() {
        document.promise(14, "Sets the base, in place of the one that there is;");
        PartSketch sketch = withBase(6);
        checks.yes("another base", sketch.setBase(2, 3, 7));
        checks.same("volume of it alone", sketch.volume(), 4 * 5 * 7);
        checks.no("one that fails", sketch.setBase(2, 2, 7));
        checks.same("volume of one that fails", sketch.volume(), 0);
        checks.yes("the first one again", sketch.setBase(0, 1, 6));
        checks.same("volume of the first one", sketch.volume(), 1200);
    }

    private void pocketsStayUnderAnotherBase() {
        document.promise(14, "pockets stay.");
        PartSketch sketch = withBase(6);
        sketch.pocket(2, 3, 5, -1);
        sketch.pocket(2, 3, 1, -1);
        checks.same("volume", sketch.volume(), 1200 - 100);
        sketch.setBase(2, 2, 50);
        checks.yes("under a base that fails", sketch.fails(0));
        sketch.setBase(0, 1, 5);
        checks.yes("too deep for a lower base", sketch.fails(0));
        checks.no("not too deep for a lower base", sketch.fails(1));
        checks.same("volume of the lower base", sketch.volume(), 1000 - 20);
        sketch.setBase(2, 3, 50);
        checks.no("in a base that is just as wide", sketch.fails(0));
        checks.same("the next number", sketch.pocket(2, 3, 1, 1), 2);
        checks.same("volume then", sketch.volume(), 20 * 45);
    }

    private void thereAre8Pockets() {
        document.terms("It has at most 8 pockets, numbered from 0: rectangles between two points, with a depth from 1 to"
                + " 50, in the top of the base, or in the bottom of another pocket with a lower number.");
        document.promise(15, "Adds a pocket.");
        document.promise(15, "Returns its number.");
        document.promise(15, "- `one`: the number of a point");
        document.promise(15, "- `other`: the number of a point");
        document.promise(16, "- `pocket`: its number");
        PartSketch sketch = withBase(50);
        for (int i = 0; i < 8; i++) {
            int number = i;
            checks.outOfBounds("fails of a pocket to come", () -> sketch.fails(number));
            checks.same("pocket " + i, sketch.pocket(i % 2 == 0 ? 2 : 3, i % 2 == 0 ? 3 : 2, 1 + i, -1), i);
            checks.no("it does not fail", sketch.fails(i));
            checks.same("volume by the deepest", sketch.volume(), 10000 - 20 * (1 + i));
        }
        checks.badState("a ninth pocket", () -> sketch.pocket(2, 3, 1, -1));
        checks.outOfBounds("fails of a ninth pocket", () -> sketch.fails(8));
        checks.same("volume by eight", sketch.volume(), 10000 - 160);
    }

    private void pocketTakesEveryDepth() {
        document.promise(15, "- `depth`: 1 to 50");
        for (int depth = 1; depth <= 50; depth++) {
            PartSketch sketch = withBase(50);
            checks.same("a pocket of the depth " + depth, sketch.pocket(2, 3, depth, -1), 0);
            checks.same("fails", sketch.fails(0) ? 1 : 0, depth == 50 ? 1 : 0);
            checks.same("volume", sketch.volume(), 10000 - (depth == 50 ? 0 : 20 * depth));
        }
    }

    private void pocketIsInTheBaseOrALowerOne() {
        document.promise(15, "- `in`: the number of the pocket in which it is, or -1 for the base");
        PartSketch sketch = withBase(50);
        checks.outOfBounds("in itself, the first", () -> sketch.pocket(2, 3, 1, 0));
        for (int i = 0; i < 8; i++) {
            int number = i;
            checks.same("in the one just lower", sketch.pocket(2, 3, 1, i - 1), i);
            checks.outOfBounds("in itself", () -> sketch.pocket(2, 3, 1, number + 1));
            checks.outOfBounds("in less than the base", () -> sketch.pocket(2, 3, 1, -2));
        }
        checks.same("volume by eight in one another", sketch.volume(), 10000 - 160);
    }

    private void pocketInABaseThatFails() {
        PartSketch sketch = at(0, 0, 5, 5);
        sketch.setBase(0, 0, 9);
        checks.same("a pocket in a base that fails", sketch.pocket(0, 1, 1, -1), 0);
        checks.yes("fails", sketch.fails(0));
        sketch.setBase(0, 1, 9);
        checks.no("does not in a base that stands", sketch.fails(0));
        checks.same("volume", sketch.volume(), 25 * 8);
    }

    private void rectanglesLieEitherWay() {
        document.terms("A rectangle between two points has the lesser and the greater x and y of both as its sides.");
        for (int way = 0; way < 4; way++) {
            int left = way % 2 == 0 ? -3 : 4;
            int low = way < 2 ? -2 : 5;
            PartSketch sketch = at(left, low, 1 - left, 3 - low, left == -3 ? -2 : 3, low, 2, 4);
            checks.yes("a base", sketch.setBase(0, 1, 2));
            checks.same("its volume", sketch.volume(), 7 * 7 * 2);
            checks.yes("a base the other way", sketch.setBase(1, 0, 2));
            checks.same("its volume too", sketch.volume(), 7 * 7 * 2);
            sketch.pocket(2, 3, 1, -1);
            sketch.pocket(3, 2, 1, -1);
            checks.no("a pocket", sketch.fails(0));
            checks.no("a pocket the other way", sketch.fails(1));
            int cells = (left == -3 ? 4 : 1) * (low == -2 ? 6 : 1);
            checks.same("volume with both", sketch.volume(), 98 - cells);
        }
    }

    private void pocketWithoutRectangle() {
        document.terms("A pocket fails if its own rectangle has none, or if that does not lie in the rectangle of what it"
                + " is in, touching allowed, or if that fails; or if its depth and those of all in which it lies,"
                + " together, are not less than the height of the base.");
        document.promise(16, "Returns whether a pocket fails.");
        document.promise(16, "Returns whether it does.");
        PartSketch sketch = withBase(9);
        sketch.pocket(2, 3, 1, -1);
        sketch.pocket(2, 3, 1, 0);
        sketch.pocket(2, 2, 1, -1);
        checks.yes("of one point", sketch.fails(2));
        int[][] others = {{5, 8, 1}, {9, 3, 1}, {5, 3, 1}, {6, 4, 0}, {4, 2, 0}, {6, 2, 0}, {4, 4, 0}};
        for (int[] other : others) {
            sketch.hint(3, other[0], other[1]);
            checks.same("in the base, to " + other[0] + ", " + other[1], sketch.fails(0) ? 1 : 0, other[2]);
            checks.same("in a pocket, to " + other[0] + ", " + other[1], sketch.fails(1) ? 1 : 0, other[2]);
            checks.same("volume", sketch.volume(), other[2] == 1 ? 1800 : 1798);
        }
    }

    /** A pocket from point 2 to point 3 that touches each side of the rectangle around, and goes over it. */
    private void touches(String what, PartSketch sketch, int pocket, int[] around) {
        int[] inner = {around[0] + 1, around[1] + 1, around[2] - 1, around[3] - 1};
        for (int side = 0; side < 4; side++) {
            int out = side < 2 ? -1 : 1;
            int[] sides = inner.clone();
            for (int over = -1; over <= 1; over++) {
                sides[side] = around[side] + over * out;
                sketch.hint(2, sides[0], sides[1]);
                sketch.hint(3, sides[2], sides[3]);
                checks.same(what + ", side " + side + ", over by " + over, sketch.fails(pocket) ? 1 : 0, over > 0 ? 1 : 0);
            }
        }
        sketch.hint(2, around[2], around[1]);
        sketch.hint(3, around[0], around[3]);
        checks.no(what + ", just as large", sketch.fails(pocket));
    }

    private void pocketTouchesEachSide() {
        PartSketch sketch = withBase(9);
        sketch.pocket(2, 3, 1, -1);
        touches("in the base", sketch, 0, new int[] {0, 0, 20, 10});
        PartSketch turned = at(20, 10, 0, 0, 1, 1, 2, 2);
        turned.setBase(0, 1, 9);
        turned.pocket(3, 2, 1, -1);
        touches("in a turned base", turned, 0, new int[] {0, 0, 20, 10});
    }

    private void pocketInAPocketTouchesEachSide() {
        PartSketch sketch = at(-10, -10, 30, 20, 5, 3, 9, 8, 2, 8, 12, -4);
        sketch.setBase(0, 1, 9);
        sketch.pocket(4, 5, 1, -1);
        sketch.pocket(2, 3, 1, 0);
        touches("in a pocket", sketch, 1, new int[] {2, -4, 12, 8});
        sketch.hint(2, 1, 0);
        checks.yes("in the base, not in the pocket", sketch.fails(1));
        checks.no("the pocket around", sketch.fails(0));
    }

    private void pocketBesideWhatItIsIn() {
        int[][] beside = {{-4, 0, 0, 5}, {20, 2, 24, 8}, {3, -6, 7, 0}, {3, 10, 7, 16}, {-9, -9, 30, 30}, {40, 40, 50, 50}};
        for (int[] sides : beside) {
            PartSketch sketch = at(0, 0, 20, 10, sides[0], sides[1], sides[2], sides[3]);
            sketch.setBase(0, 1, 9);
            sketch.pocket(2, 3, 1, -1);
            checks.yes("beside, round or far from the base", sketch.fails(0));
            checks.same("takes nothing", sketch.volume(), 1800);
            checks.same("costs nothing", sketch.price(), 3600);
        }
    }

    private void pocketInOneThatFails() {
        PartSketch sketch = at(0, 0, 20, 10, 5, 3, 9, 8, 5, 11);
        sketch.setBase(0, 1, 50);
        sketch.pocket(4, 3, 1, -1);
        sketch.pocket(2, 3, 1, 0);
        sketch.pocket(2, 3, 1, 1);
        sketch.pocket(2, 3, 2, -1);
        checks.yes("over the base", sketch.fails(0));
        checks.yes("in one that fails", sketch.fails(1));
        checks.yes("in one in one that fails", sketch.fails(2));
        checks.no("beside one that fails", sketch.fails(3));
        sketch.hint(4, 5, 3);
        checks.no("stands", sketch.fails(0));
        checks.no("in one that stands", sketch.fails(1));
        checks.no("in one in one that stands", sketch.fails(2));
    }

    private void pocketInABaseThatComesToFail() {
        PartSketch sketch = withBase(50);
        sketch.pocket(2, 3, 1, -1);
        sketch.pocket(2, 3, 1, 0);
        sketch.wish(IN_X, 0, 1, 0);
        checks.yes("in a base without width", sketch.fails(0));
        checks.yes("in a pocket of it", sketch.fails(1));
        sketch.type(0, 8);
        checks.yes("in a base too narrow by one", sketch.fails(0));
        sketch.type(0, 9);
        checks.no("in a base just wide enough", sketch.fails(0));
        sketch.wish(IN_Y, 0, 1, 0);
        checks.yes("in a base without depth in y", sketch.fails(1));
        sketch.type(1, 8);
        checks.no("in a base just deep enough in y", sketch.fails(1));
    }

    private void depthsTogetherBelowTheHeight() {
        for (int height = 1; height <= 50; height++) {
            PartSketch sketch = withBase(height);
            sketch.pocket(2, 3, height, -1);
            checks.yes("as deep as the base is high", sketch.fails(0));
            if (height > 1) {
                sketch.pocket(2, 3, height - 1, -1);
                checks.no("one less", sketch.fails(1));
                sketch.pocket(2, 3, 1, 1);
                checks.yes("one less, and one in it", sketch.fails(2));
            }
            if (height < 50) {
                sketch.setBase(0, 1, height + 1);
                checks.no("one higher", sketch.fails(0));
            }
        }
    }

    private void depthsOfEightTogether() {
        PartSketch sketch = withBase(8);
        for (int i = 0; i < 8; i++) {
            sketch.pocket(2, 3, 1, i - 1);
            checks.same("pocket " + i, sketch.fails(i) ? 1 : 0, i == 7 ? 1 : 0);
        }
        sketch.setBase(0, 1, 9);
        checks.no("the eighth in a higher base", sketch.fails(7));
        for (int height = 1; height <= 9; height++) {
            sketch.setBase(0, 1, height);
            for (int i = 0; i < 8; i++) {
                checks.same("pocket " + i + ", height " + height, sketch.fails(i) ? 1 : 0, i + 1 >= height ? 1 : 0);
            }
        }
    }

    private void depthsBesideDoNotAdd() {
        PartSketch sketch = withBase(5);
        sketch.pocket(2, 3, 4, -1);
        sketch.pocket(2, 3, 4, -1);
        sketch.pocket(2, 3, 1, -1);
        sketch.pocket(2, 3, 3, 2);
        sketch.pocket(2, 3, 4, 2);
        int[] due = {0, 0, 0, 0, 1};
        for (int i = 0; i < due.length; i++) {
            checks.same("pocket " + i, sketch.fails(i) ? 1 : 0, due[i]);
        }
    }

    private void volumeFromNone() {
        document.terms("The volume of the body is the number of cells of the length 1 of the base that no pocket has taken"
                + " out; pockets that fail take nothing out; 0 if there is no base or it fails.");
        document.promise(17, "Returns the volume of the body.");
        PartSketch sketch = at(0, 0, 20, 10);
        checks.same("no base", sketch.volume(), 0);
        sketch.setBase(1, 1, 50);
        checks.same("a base that fails", sketch.volume(), 0);
        sketch.pocket(0, 1, 1, -1);
        checks.same("a base that fails, with a pocket", sketch.volume(), 0);
        sketch.setBase(0, 1, 1);
        checks.same("a base as high as the pocket is deep", sketch.volume(), 200);
        sketch.setBase(0, 1, 2);
        checks.same("a base that is higher", sketch.volume(), 200);
    }

    private void volumeOfOneCell() {
        PartSketch sketch = at(-1, -1, 0, 0);
        sketch.setBase(0, 1, 1);
        checks.same("one cell", sketch.volume(), 1);
        sketch.pocket(0, 1, 1, -1);
        checks.same("one cell that can't be taken", sketch.volume(), 1);
        sketch.setBase(0, 1, 2);
        checks.same("one of two is taken", sketch.volume(), 1);
        sketch.setBase(0, 1, 50);
        checks.same("one of fifty is taken", sketch.volume(), 49);
        sketch.pocket(0, 1, 48, 0);
        checks.same("all but the last are taken", sketch.volume(), 1);
    }

    private void volumeCountsCellsOnce() {
        PartSketch sketch = at(0, 0, 20, 10, 5, 3, 9, 8, 8, 7, 12, 9);
        sketch.setBase(0, 1, 9);
        sketch.pocket(2, 3, 2, -1);
        sketch.pocket(4, 5, 3, -1);
        checks.same("two that share one column", sketch.volume(), 1800 - 40 - 24 + 2);
        sketch.pocket(2, 3, 2, -1);
        checks.same("one of them twice", sketch.volume(), 1800 - 62);
        sketch.pocket(0, 1, 1, -1);
        checks.same("with the whole top", sketch.volume(), 1800 - 200 - 20 - 16 + 1);
        sketch.pocket(0, 1, 8, -1);
        checks.same("with all but the last layer", sketch.volume(), 200);
    }

    private void volumeOfCellsSideBySide() {
        PartSketch sketch = at(0, 0, 20, 10, 5, 3, 9, 8, 9, 3, 12, 8, 5, 8, 12, 10);
        sketch.setBase(0, 1, 9);
        sketch.pocket(2, 3, 2, -1);
        sketch.pocket(4, 5, 3, -1);
        checks.same("side by side in x", sketch.volume(), 1800 - 40 - 45);
        sketch.pocket(6, 7, 4, -1);
        checks.same("side by side in y", sketch.volume(), 1800 - 40 - 45 - 56);
    }

    private void volumeFromTheBottomDown() {
        document.terms("A pocket takes out the cells of its rectangle from the bottom of what it is in, or the top of the"
                + " base, down by its depth.");
        PartSketch sketch = withBase(9);
        sketch.pocket(2, 3, 2, -1);
        sketch.pocket(2, 3, 3, 0);
        checks.same("from the bottom of a pocket", sketch.volume(), 1800 - 100);
        sketch.pocket(2, 3, 5, -1);
        checks.same("from the top, just as far", sketch.volume(), 1800 - 100);
        sketch.pocket(2, 3, 6, -1);
        checks.same("from the top, one further", sketch.volume(), 1800 - 120);
        sketch.pocket(2, 3, 3, 1);
        checks.same("from the bottom of the second, to the last but one", sketch.volume(), 1800 - 160);
        sketch.pocket(2, 3, 4, 1);
        checks.same("from the bottom of the second, to the last", sketch.volume(), 1800 - 160);
    }

    private void volumeRoundTheOrigin() {
        PartSketch sketch = at(-100, -100, 100, 100, -1, -1, 1, 1);
        sketch.setBase(0, 1, 50);
        checks.same("between the farthest hints", sketch.volume(), 2_000_000);
        sketch.pocket(2, 3, 49, -1);
        checks.same("four columns at the origin", sketch.volume(), 2_000_000 - 196);
        sketch.pocket(1, 0, 49, -1);
        checks.same("the last layer", sketch.volume(), 40_000);
    }

    private void volumeOfPocketsThatFail() {
        PartSketch sketch = withBase(9);
        sketch.pocket(2, 3, 9, -1);
        sketch.pocket(2, 2, 1, -1);
        sketch.pocket(2, 3, 1, 0);
        checks.same("three that fail", sketch.volume(), 1800);
        sketch.pocket(2, 3, 1, -1);
        checks.same("and one that does not", sketch.volume(), 1780);
    }

    private void priceFromNone() {
        document.terms("The price is 2 for each cell of the whole base, taken out or not, 1 for each cell that is taken"
                + " out, and 100 for each different depth of pockets that do not fail; 0 if there is no base or it"
                + " fails.");
        document.promise(18, "Returns the price.");
        PartSketch sketch = at(0, 0, 20, 10);
        checks.same("no base", sketch.price(), 0);
        sketch.setBase(0, 0, 50);
        checks.same("a base that fails", sketch.price(), 0);
        sketch.pocket(0, 1, 1, -1);
        checks.same("a base that fails, with a pocket", sketch.price(), 0);
        sketch.setBase(0, 1, 1);
        checks.same("a base, and a pocket that fails", sketch.price(), 400);
        sketch.setBase(0, 1, 2);
        checks.same("a base, and a pocket that does not", sketch.price(), 800 + 200 + 100);
    }

    private void priceOfOneCell() {
        PartSketch sketch = at(0, 0, 1, 1);
        sketch.setBase(0, 1, 1);
        checks.same("one cell", sketch.price(), 2);
        sketch.setBase(1, 0, 2);
        checks.same("two cells", sketch.price(), 4);
        sketch.pocket(0, 1, 1, -1);
        checks.same("one of two taken", sketch.price(), 4 + 1 + 100);
        sketch.pocket(0, 1, 1, -1);
        checks.same("taken twice", sketch.price(), 4 + 1 + 100);
    }

    private void priceOfDepths() {
        PartSketch sketch = withBase(50);
        int[] depths = {1, 49, 1, 48, 2, 49, 3, 4};
        int[] different = {1, 2, 2, 3, 4, 4, 5, 6};
        for (int i = 0; i < 8; i++) {
            sketch.pocket(2, 3, depths[i], -1);
            int taken = 20 * (i == 0 ? 1 : 49);
            checks.same("price with " + (i + 1), sketch.price(), 20_000 + taken + 100 * different[i]);
        }
        PartSketch nested = withBase(50);
        for (int i = 0; i < 8; i++) {
            nested.pocket(2, 3, 1 + i, i - 1);
        }
        checks.same("eight different depths", nested.price(), 20_000 + 20 * 36 + 800);
        PartSketch alike = withBase(50);
        for (int i = 0; i < 8; i++) {
            alike.pocket(2, 3, 6, i - 1);
        }
        checks.same("eight times one depth", alike.price(), 20_000 + 20 * 48 + 100);
    }

    private void priceOfPocketsThatFail() {
        PartSketch sketch = withBase(9);
        sketch.pocket(2, 3, 9, -1);
        sketch.pocket(2, 2, 3, -1);
        sketch.pocket(2, 3, 4, 0);
        checks.same("three that fail", sketch.price(), 3600);
        sketch.pocket(2, 3, 4, -1);
        checks.same("one as deep as one that fails", sketch.price(), 3600 + 80 + 100);
        sketch.setBase(0, 1, 4);
        checks.same("now that fails too", sketch.price(), 1600);
    }

    private void bodyFollowsEachChange() {
        PartSketch sketch = withBase(4);
        sketch.pocket(2, 3, 1, -1);
        checks.same("at first", sketch.volume(), 780);
        sketch.hint(1, 9, 8);
        checks.same("a hint", sketch.volume(), 9 * 8 * 4 - 20);
        sketch.wish(IN_X, 0, 1, 8);
        checks.same("a wish", sketch.volume(), 8 * 8 * 4);
        sketch.type(0, 100);
        checks.same("a typed size", sketch.volume(), 100 * 8 * 4 - 20);
        sketch.tell(0, 0, -100);
        checks.same("a told size", sketch.volume(), 100 * 8 * 4 - 20);
        sketch.choose(0);
        checks.same("a chosen size", sketch.volume(), 100 * 8 * 4);
        checks.yes("the pocket fails by it", sketch.fails(0));
        sketch.remove(0);
        checks.no("a removed wish", sketch.fails(0));
        checks.same("its volume", sketch.volume(), 9 * 8 * 4 - 20);
        checks.same("its price", sketch.price(), 2 * 288 + 20 + 100);
    }
}
