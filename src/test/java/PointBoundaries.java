/** Boundary cases of promises 1 to 3 and of what the terms say of points. */
final class PointBoundaries {
    private final Checks checks;
    private final Document document;

    PointBoundaries(Checks checks, Document document) {
        this.checks = checks;
        this.document = document;
    }

    void run() {
        objectServes512Calls();
        newObjectIsEmpty();
        newObjectIsItsOwn();
        constantsStand();
        thereAre16Points();
        pointTakesEveryHint();
        pointOutOfRangeTakesNoNumber();
        hintTakesEveryPlace();
        hintMovesFirstAndLastPoint();
        hintToTheSamePlace();
    }

    private void objectServes512Calls() {
        document.whatItIs("An object is used for at most 512 calls after it has been made");
        PartSketch sketch = new PartSketch();
        sketch.point(0, 0);
        for (int call = 2; call < 512; call++) {
            sketch.hint(0, call % 201 - 100, 0);
        }
        checks.same("call 512", sketch.x(0), 511 % 201 - 100);
    }

    private void newObjectIsEmpty() {
        document.promise(1, "`PartSketch()`: Creates an empty sketch without a body.");
        document.promise(8, "Returns the number of wishes.");
        PartSketch sketch = new PartSketch();
        checks.same("wishes", sketch.wishes(), 0);
        checks.same("freedom", sketch.freedom(), 0);
        checks.same("volume", sketch.volume(), 0);
        checks.same("price", sketch.price(), 0);
        for (int variant = 0; variant < 4; variant++) {
            checks.same("choose", sketch.choose(variant), 0);
        }
        checks.outOfBounds("x", () -> sketch.x(0));
        checks.outOfBounds("y", () -> sketch.y(0));
        checks.outOfBounds("state", () -> sketch.state(0));
        checks.outOfBounds("fails", () -> sketch.fails(0));
        checks.same("the first point", sketch.point(0, 0), 0);
        checks.badState("no body", () -> sketch.pocket(0, 0, 1, -1));
    }

    private void newObjectIsItsOwn() {
        PartSketch full = Scene.FULL.draw();
        PartSketch empty = new PartSketch();
        checks.same("wishes beside a full sketch", empty.wishes(), 0);
        checks.same("first point beside a full sketch", empty.point(7, 8), 0);
        checks.same("x in the full sketch", full.x(0), -50);
        checks.same("wishes of the full sketch", full.wishes(), 40);
    }

    private void constantsStand() {
        document.terms("The constants: `WORKS = 0, IDLE = 1, BROKEN = 2`: What becomes of a wish.");
        checks.same("WORKS", PartSketch.WORKS, 0);
        checks.same("IDLE", PartSketch.IDLE, 1);
        checks.same("BROKEN", PartSketch.BROKEN, 2);
    }

    private void thereAre16Points() {
        document.terms("Points are numbered from 0; there are at most 16.");
        document.promise(2, "Adds a point.");
        document.promise(2, "Returns its number.");
        document.promise(10, "- `point`: its number");
        document.promise(11, "- `point`: its number");
        PartSketch sketch = new PartSketch();
        for (int i = 0; i < 16; i++) {
            int number = i;
            checks.outOfBounds("x ahead of its point", () -> sketch.x(number));
            checks.outOfBounds("y ahead of its point", () -> sketch.y(number));
            checks.same("point " + i, sketch.point(i, -i), i);
            checks.same("freedom with " + (i + 1) + " points", sketch.freedom(), 2 * i + 2);
        }
        checks.badState("a 17th point", () -> sketch.point(0, 0));
        for (int i = 0; i < 16; i++) {
            checks.same("x of point " + i, sketch.x(i), i);
            checks.same("y of point " + i, sketch.y(i), -i);
        }
        checks.badState("a 17th point still", () -> sketch.point(0, 0));
    }

    private void pointTakesEveryHint() {
        document.terms("A point has a hint, x and y from -100 to 100.");
        document.promise(2, "- `x`: -100 to 100");
        document.promise(2, "- `y`: -100 to 100");
        PartSketch sketch = new PartSketch();
        for (int place = -100; place <= 100; place++) {
            if ((place + 100) % 16 == 0) {
                sketch = new PartSketch();
            }
            int point = sketch.point(place, -place);
            checks.same("a point's x", sketch.x(point), place);
            checks.same("a point's y", sketch.y(point), -place);
        }
    }

    private void pointOutOfRangeTakesNoNumber() {
        PartSketch sketch = new PartSketch();
        checks.badArgument("x just too small", () -> sketch.point(-101, 0));
        checks.badArgument("x just too large", () -> sketch.point(101, 0));
        checks.badArgument("y just too small", () -> sketch.point(0, -101));
        checks.badArgument("y just too large", () -> sketch.point(0, 101));
        checks.same("the number is still there", sketch.point(-100, -100), 0);
        checks.same("x of the least", sketch.x(0), -100);
        checks.same("y of the least", sketch.y(0), -100);
        checks.same("the next number", sketch.point(100, 100), 1);
        checks.same("x of the greatest", sketch.x(1), 100);
        checks.same("y of the greatest", sketch.y(1), 100);
    }

    private void hintTakesEveryPlace() {
        document.promise(3, "Moves the hint of a point.");
        document.promise(3, "- `x`: -100 to 100");
        document.promise(3, "- `y`: -100 to 100");
        PartSketch inX = new PartSketch();
        PartSketch inY = new PartSketch();
        inX.point(0, 50);
        inY.point(50, 0);
        for (int place = -100; place <= 100; place++) {
            inX.hint(0, place, 50);
            inY.hint(0, 50, place);
            checks.same("a hint's x", inX.x(0), place);
            checks.same("a hint's y", inY.y(0), place);
        }
        checks.same("y beside the moved x", inX.y(0), 50);
        checks.same("x beside the moved y", inY.x(0), 50);
    }

    private void hintMovesFirstAndLastPoint() {
        document.promise(3, "- `point`: its number");
        PartSketch sketch = Scene.FULL.draw();
        for (int i = 0; i < Scene.FULL.wishes; i++) {
            sketch.remove(0);
        }
        sketch.hint(0, -100, 100);
        sketch.hint(15, 100, -100);
        checks.same("x of point 0", sketch.x(0), -100);
        checks.same("y of point 0", sketch.y(0), 100);
        checks.same("x of point 15", sketch.x(15), 100);
        checks.same("y of point 15", sketch.y(15), -100);
        checks.same("x of point 1", sketch.x(1), -44);
        checks.same("y of point 14", sketch.y(14), -20);
    }

    private void hintToTheSamePlace() {
        PartSketch sketch = Scene.SOME.draw();
        sketch.hint(3, 12, 14);
        checks.text("a hint where it was", Picture.of(sketch, Picture.Kind.PLACES),
                Picture.of(Scene.SOME.draw(), Picture.Kind.PLACES));
    }
}
