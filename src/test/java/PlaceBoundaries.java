/** Boundary cases of promises 9 to 11 and of what the terms say of places; x and y are tested alike. */
final class PlaceBoundaries {
    private static final int IN_X = 0, IN_Y = 1, AT_HINT = 2;
    private static final int IDLE = PartSketch.IDLE, BROKEN = PartSketch.BROKEN;

    private final Checks checks;
    private final Document document;
    private int axis;

    PlaceBoundaries(Checks checks, Document document) {
        this.checks = checks;
        this.document = document;
    }

    void run() {
        document.terms("Likewise in y.");
        document.promise(10, "Returns the x of a point.");
        document.promise(10, "Returns its x.");
        document.promise(11, "Returns the y of a point.");
        document.promise(11, "Returns its y.");
        for (axis = IN_X; axis <= IN_Y; axis++) {
            pointsHangDirectlyOrOverOthers();
            brokenWishesHangNothing();
            lowestNumberHasItsHint();
            lonePointHasItsHint();
            pointAtItsHintDecides();
            brokenHintDecidesNothing();
            idleHintDecides();
            wishTiesToOneAtItsHint();
            wishAcrossTiesNothing();
            farthestPlaces();
            freedomOfGroups();
            freedomOfTwoAtTheirHints();
        }
        freedomFromLeastToMost();
        freedomOfKind2InOneAxis();
    }

    /** Points at 3, 10, 17 and so on along the axis, and somewhere across. */
    private PartSketch withPoints(int count) {
        PartSketch sketch = new PartSketch();
        for (int i = 0; i < count; i++) {
            int along = 7 * i + 3 - 56;
            sketch.point(axis == IN_X ? along : -i, axis == IN_X ? -i : along);
        }
        return sketch;
    }

    private void hint(PartSketch sketch, int point, int along) {
        sketch.hint(point, axis == IN_X ? along : -point, axis == IN_X ? -point : along);
    }

    private int along(PartSketch sketch, int point) {
        return axis == IN_X ? sketch.x(point) : sketch.y(point);
    }

    private int across(PartSketch sketch, int point) {
        return axis == IN_X ? sketch.y(point) : sketch.x(point);
    }

    private void places(String what, PartSketch sketch, int... due) {
        for (int point = 0; point < due.length; point++) {
            checks.same("axis " + axis + ", " + what + ", point " + point, along(sketch, point), due[point]);
            checks.same("axis " + axis + ", " + what + ", across", across(sketch, point), -point);
        }
    }

    private void pointsHangDirectlyOrOverOthers() {
        document.terms("Places.");
        document.terms("By the wishes that work or are idle, points hang together in x, and likewise in y: directly or"
                + " over others.");
        PartSketch sketch = withPoints(4);
        places("alone", sketch, -53, -46, -39, -32);
        sketch.wish(axis, 0, 1, 1);
        places("directly", sketch, -53, -52, -39, -32);
        sketch.wish(axis, 3, 2, 1);
        places("two groups", sketch, -53, -52, -39, -40);
        sketch.wish(axis, 1, 3, 1);
        places("over others", sketch, -53, -52, -50, -51);
        sketch.wish(axis, 0, 2, 3);
        checks.same("an idle wish", sketch.state(3), IDLE);
        places("with an idle wish", sketch, -53, -52, -50, -51);
        sketch.remove(2);
        places("held by what was idle", sketch, -53, -52, -50, -51);
        sketch.remove(2);
        places("two groups again", sketch, -53, -52, -39, -40);
    }

    private void brokenWishesHangNothing() {
        PartSketch sketch = withPoints(3);
        sketch.wish(AT_HINT, 0, 0, 0);
        sketch.wish(AT_HINT, 1, 0, 0);
        sketch.wish(axis, 0, 1, 8);
        checks.same("broken by two hints", sketch.state(2), BROKEN);
        places("with a broken wish", sketch, -53, -46, -39);
    }

    private void lowestNumberHasItsHint() {
        document.terms("Of points that hang together in x, if one is at its hint by a wish, all x follow from that;"
                + " otherwise the point with the lowest number has the x of its hint, and the others follow.");
        PartSketch sketch = withPoints(5);
        sketch.wish(axis, 4, 2, 10);
        sketch.wish(axis, 3, 4, 10);
        places("lowest is 2", sketch, -53, -46, -39, -59, -49);
        hint(sketch, 3, 100);
        hint(sketch, 4, -100);
        places("hints that decide nothing", sketch, -53, -46, -39, -59, -49);
        hint(sketch, 2, 100);
        places("the hint that decides", sketch, -53, -46, 100, 80, 90);
        sketch.wish(axis, 3, 1, 0);
        places("lowest is 1", sketch, -53, -46, -26, -46, -36);
        sketch.wish(axis, 4, 0, 0);
        places("lowest is 0", sketch, -53, -63, -43, -63, -53);
    }

    private void lonePointHasItsHint() {
        PartSketch sketch = withPoints(16);
        hint(sketch, 15, -100);
        checks.same("a lone point", along(sketch, 15), -100);
        hint(sketch, 15, 100);
        checks.same("a lone point, moved", along(sketch, 15), 100);
        checks.same("the others stay", along(sketch, 14), 45);
    }

    private void pointAtItsHintDecides() {
        PartSketch sketch = withPoints(16);
        for (int i = 0; i < 15; i++) {
            sketch.wish(axis, i, i + 1, 1);
        }
        checks.same("by the lowest", along(sketch, 15), -38);
        sketch.wish(AT_HINT, 15, 0, 0);
        checks.same("at its hint", along(sketch, 15), 52);
        checks.same("the lowest follows", along(sketch, 0), 37);
        hint(sketch, 0, 0);
        checks.same("the hint of the lowest decides nothing", along(sketch, 0), 37);
        hint(sketch, 15, -100);
        checks.same("the hint of the highest does", along(sketch, 0), -115);
        sketch.remove(15);
        checks.same("by the lowest again", along(sketch, 15), 15);
    }

    private void brokenHintDecidesNothing() {
        PartSketch sketch = withPoints(3);
        sketch.wish(AT_HINT, 2, 0, 0);
        sketch.wish(axis, 2, 0, 0);
        sketch.wish(AT_HINT, 0, 0, 0);
        checks.same("a broken wish of the kind 2", sketch.state(2), BROKEN);
        places("by the one that works", sketch, -39, -46, -39);
    }

    private void idleHintDecides() {
        PartSketch sketch = withPoints(3);
        sketch.wish(AT_HINT, 1, 0, 0);
        sketch.wish(AT_HINT, 1, 0, 0);
        sketch.wish(axis, 1, 0, 0);
        checks.same("an idle wish of the kind 2", sketch.state(1), IDLE);
        places("by the first", sketch, -46, -46, -39);
        sketch.remove(0);
        places("by the one that was idle", sketch, -46, -46, -39);
    }

    private void wishTiesToOneAtItsHint() {
        PartSketch sketch = withPoints(5);
        sketch.wish(AT_HINT, 2, 0, 0);
        sketch.wish(axis, 0, 2, 9);
        places("the one at its hint is other", sketch, -48, -46, -39, -32, -25);
        sketch.wish(axis, 2, 3, 9);
        places("the one at its hint is one", sketch, -48, -46, -39, -30, -25);
        sketch.wish(axis, 1, 4, 5);
        sketch.wish(axis, 4, 0, -100);
        places("another group is tied to it", sketch, -48, 47, -39, -30, 52);
        hint(sketch, 0, 100);
        hint(sketch, 2, 100);
        places("the hint moves all", sketch, 91, 186, 100, 109, 191);
    }

    private void wishAcrossTiesNothing() {
        PartSketch sketch = withPoints(2);
        sketch.wish(1 - axis, 0, 1, 50);
        checks.same("along stays", along(sketch, 1), -46);
        checks.same("across follows", across(sketch, 1), 50);
        checks.same("one group less", sketch.freedom(), 3);
    }

    private void farthestPlaces() {
        for (int size = -100; size <= 100; size += 200) {
            PartSketch sketch = withPoints(16);
            hint(sketch, 0, size);
            for (int i = 0; i < 15; i++) {
                sketch.wish(axis, i, i + 1, size);
            }
            checks.same("fifteen sizes behind the hint", along(sketch, 15), 16 * size);
            sketch.wish(axis, 0, 15, size);
            checks.same("which no one size asks for", sketch.state(15), BROKEN);
            sketch.remove(15);
            hint(sketch, 15, -size);
            sketch.wish(AT_HINT, 15, 0, 0);
            checks.same("fifteen sizes ahead of the hint", along(sketch, 0), -16 * size);
        }
    }

    private void freedomOfGroups() {
        PartSketch sketch = withPoints(16);
        for (int i = 0; i < 15; i++) {
            checks.same("groups with " + i + " wishes", sketch.freedom(), 32 - i);
            sketch.wish(axis, 15 - i, 14 - i, 1);
        }
        checks.same("one group along", sketch.freedom(), 17);
        sketch.wish(axis, 0, 15, -15);
        checks.same("an idle wish takes nothing", sketch.freedom(), 17);
        sketch.wish(axis, 0, 15, -14);
        checks.same("a broken wish takes nothing", sketch.freedom(), 17);
        sketch.wish(AT_HINT, 7, 0, 0);
        checks.same("the group, and one point across", sketch.freedom(), 15);
        sketch.wish(AT_HINT, 7, 0, 0);
        checks.same("once more", sketch.freedom(), 15);
    }

    private void freedomOfTwoAtTheirHints() {
        PartSketch sketch = withPoints(3);
        sketch.wish(AT_HINT, 0, 0, 0);
        sketch.wish(AT_HINT, 2, 0, 0);
        checks.same("two at their hints, one free", sketch.freedom(), 2);
        sketch.wish(axis, 1, 2, 0);
        checks.same("tied to one of them", sketch.freedom(), 1);
        sketch.wish(1 - axis, 1, 0, 0);
        checks.same("and across to the other", sketch.freedom(), 0);
    }

    private void freedomFromLeastToMost() {
        document.terms("The freedom is the number of groups of points that hang together in x without one that is at its"
                + " hint by a wish, together with that of the groups in y.");
        document.promise(9, "Returns the freedom.");
        PartSketch sketch = new PartSketch();
        checks.same("no points", sketch.freedom(), 0);
        for (int i = 0; i < 16; i++) {
            sketch.point(i, i);
        }
        checks.same("most points", sketch.freedom(), 32);
        for (int i = 0; i < 16; i++) {
            sketch.wish(AT_HINT, i, 0, 0);
            checks.same("points at their hints", sketch.freedom(), 30 - 2 * i);
        }
        sketch.remove(0);
        checks.same("one let go", sketch.freedom(), 2);
    }

    private void freedomOfKind2InOneAxis() {
        PartSketch sketch = new PartSketch();
        sketch.point(0, 0);
        sketch.point(4, 9);
        sketch.wish(AT_HINT, 0, 0, 0);
        sketch.wish(IN_X, 0, 1, 4);
        checks.same("y of one is free", sketch.freedom(), 1);
        sketch.wish(AT_HINT, 1, 0, 0);
        checks.same("works for y alone", sketch.state(2), PartSketch.WORKS);
        checks.same("none is free", sketch.freedom(), 0);
    }
}
