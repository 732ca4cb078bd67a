/** Boundary cases of promises 4 to 8 and of what the terms say of wishes. */
final class WishBoundaries {
    private static final int IN_X = 0, IN_Y = 1, AT_HINT = 2;
    private static final int WORKS = PartSketch.WORKS, IDLE = PartSketch.IDLE, BROKEN = PartSketch.BROKEN;
    private static final int MIN = Integer.MIN_VALUE, MAX = Integer.MAX_VALUE;

    private final Checks checks;
    private final Document document;

    WishBoundaries(Checks checks, Document document) {
        this.checks = checks;
        this.document = document;
    }

    void run() {
        thereAre40Wishes();
        wishAsksForEveryDifference();
        wishTakesFirstAndLastPoint();
        kind2MattersNeitherOtherNorSize();
        kind2AsksForTheHint();
        wishesGoInTheirOrder();
        wishIsJudgedToTheUnit();
        wishIsJudgedRoundAChain();
        brokenWishesDoNotCount();
        wishesBehindDoNotCount();
        kind2IsJudgedInBothAxes();
        kind2FollowsItsHint();
        twoAtTheirHints();
        removeFirstMiddleLast();
        removeMovesTheTable();
        removeAnswersWhatBecameOfIt();
        removeTheOnlyOne();
        removeMakesRoom();
        typeTakesEverySize();
        typeReachesFirstAndLast();
        typeLeavesTheTable();
        typeSolvesAnew();
        stateReachesFirstAndLast();
    }

    private static PartSketch withPoints(int count) {
        PartSketch sketch = new PartSketch();
        for (int i = 0; i < count; i++) {
            sketch.point(10 * i - 80, 60 - 7 * i);
        }
        return sketch;
    }

    private static int placeOf(PartSketch sketch, int axis, int point) {
        return axis == IN_X ? sketch.x(point) : sketch.y(point);
    }

    private void thereAre40Wishes() {
        document.terms("Wishes are numbered from 0; there are at most 40.");
        document.promise(4, "Adds a wish.");
        document.promise(4, "Returns its number.");
        document.promise(4, "- `kind`: 0 to 2");
        PartSketch sketch = withPoints(2);
        for (int i = 0; i < 40; i++) {
            checks.same("wish " + i, sketch.wish(i % 3, i % 2, 1 - i % 2, i), i);
            checks.same("wishes", sketch.wishes(), i + 1);
        }
        checks.badState("a 41st wish", () -> sketch.wish(IN_X, 0, 1, 0));
        checks.badState("a 41st wish of the kind 2", () -> sketch.wish(AT_HINT, 0, 1, 0));
        checks.same("wishes then", sketch.wishes(), 40);
        checks.outOfBounds("state of wish 40", () -> sketch.state(40));
    }

    private void wishAsksForEveryDifference() {
        document.terms("A wish is about two different points, one and other, and asks for a difference: of the"
                + " kind 0 that the other's x less the one's x is a size; of the kind 1 that the other's y less"
                + " the one's y is one; sizes are from -100 to 100, so that the size 0 asks for plumb or level"
                + " points.");
        for (int size = -100; size <= 100; size++) {
            for (int axis = IN_X; axis <= IN_Y; axis++) {
                PartSketch sketch = withPoints(3);
                sketch.wish(axis, 2, 1, size);
                checks.same("a wish works", sketch.state(0), WORKS);
                checks.same("other less one", placeOf(sketch, axis, 1) - placeOf(sketch, axis, 2), size);
                checks.same("in x alone, or in y", placeOf(sketch, 1 - axis, 2), axis == IN_X ? 46 : -60);
            }
        }
    }

    private void wishTakesFirstAndLastPoint() {
        document.promise(4, "- `one`: the number of a point");
        PartSketch sketch = withPoints(16);
        sketch.wish(IN_X, 0, 15, 100);
        sketch.wish(IN_Y, 15, 0, 100);
        sketch.wish(AT_HINT, 15, 0, 0);
        sketch.wish(AT_HINT, 0, 0, 0);
        checks.same("x of point 15", sketch.x(15), 70);
        checks.same("x of point 0", sketch.x(0), -30);
        checks.same("y of point 0", sketch.y(0), 55);
        checks.same("point 15 at its hint", sketch.state(2), WORKS);
        checks.same("point 0 at its hint", sketch.state(3), BROKEN);
    }

    private void kind2MattersNeitherOtherNorSize() {
        int[] others = {-1, 0, 1, 2, 16, MIN, MAX};
        int[] sizes = {-101, -100, 0, 100, 101, MIN, MAX};
        for (int other : others) {
            for (int size : sizes) {
                PartSketch sketch = withPoints(2);
                checks.same("the kind 2", sketch.wish(AT_HINT, 1, other, size), 0);
                checks.same("works", sketch.state(0), WORKS);
                checks.same("is about one point", sketch.freedom(), 2);
                checks.same("at its hint in x", sketch.x(1), -70);
                checks.same("at its hint in y", sketch.y(1), 53);
            }
        }
    }

    private void kind2AsksForTheHint() {
        document.terms("A wish of the kind 2 is about one point, and asks that it is at its hint.");
        PartSketch sketch = withPoints(3);
        sketch.wish(IN_X, 0, 2, 0);
        sketch.wish(IN_Y, 0, 2, 0);
        sketch.wish(AT_HINT, 2, 0, 0);
        checks.same("x of the point at its hint", sketch.x(2), -60);
        checks.same("y of the point at its hint", sketch.y(2), 46);
        checks.same("x that follows", sketch.x(0), -60);
        checks.same("y that follows", sketch.y(0), 46);
        checks.same("a point apart", sketch.x(1), -70);
    }

    private void wishesGoInTheirOrder() {
        document.terms("The wishes are gone through in their order.");
        PartSketch sketch = withPoints(2);
        for (int i = 0; i < 40; i++) {
            sketch.wish(IN_X, 0, 1, i == 0 || i == 39 ? 5 : 6);
        }
        checks.same("the first works", sketch.state(0), WORKS);
        checks.same("the next is broken", sketch.state(1), BROKEN);
        checks.same("the last but one too", sketch.state(38), BROKEN);
        checks.same("the last is idle", sketch.state(39), IDLE);
        sketch.remove(0);
        checks.same("the next is the first", sketch.state(0), WORKS);
        checks.same("the one behind is idle", sketch.state(1), IDLE);
        checks.same("so is the last but one", sketch.state(37), IDLE);
        checks.same("the last is broken", sketch.state(38), BROKEN);
    }

    private void wishIsJudgedToTheUnit() {
        document.terms("A wish is broken if it cannot hold together with the wishes ahead of it that are not broken;"
                + " it is idle if it holds by them already; otherwise it works.");
        for (int axis = IN_X; axis <= IN_Y; axis++) {
            PartSketch sketch = withPoints(3);
            sketch.wish(axis, 0, 1, 99);
            sketch.wish(axis, 0, 1, 99);
            sketch.wish(axis, 0, 1, 98);
            sketch.wish(axis, 0, 1, 100);
            sketch.wish(axis, 1, 0, -99);
            sketch.wish(axis, 1, 0, 99);
            sketch.wish(1 - axis, 0, 1, 98);
            sketch.wish(axis, 2, 1, 0);
            int[] due = {WORKS, IDLE, BROKEN, BROKEN, IDLE, BROKEN, WORKS, WORKS};
            for (int wish = 0; wish < due.length; wish++) {
                checks.same("axis " + axis + ", wish " + wish, sketch.state(wish), due[wish]);
            }
        }
    }

    private void wishIsJudgedRoundAChain() {
        for (int axis = IN_X; axis <= IN_Y; axis++) {
            PartSketch sketch = withPoints(16);
            for (int i = 0; i < 15; i++) {
                sketch.wish(axis, i, i + 1, i % 2 == 0 ? 100 : -100);
            }
            sketch.wish(axis, 0, 15, 100);
            sketch.wish(axis, 0, 15, 99);
            sketch.wish(axis, 15, 0, -100);
            sketch.wish(axis, 14, 0, 0);
            sketch.wish(axis, 14, 0, 1);
            for (int i = 0; i < 15; i++) {
                checks.same("a wish of the chain", sketch.state(i), WORKS);
            }
            checks.same("round the chain", sketch.state(15), IDLE);
            checks.same("round it, one less", sketch.state(16), BROKEN);
            checks.same("round it, back", sketch.state(17), IDLE);
            checks.same("level or plumb with the first", sketch.state(18), IDLE);
            checks.same("one off that", sketch.state(19), BROKEN);
            sketch.remove(7);
            checks.same("the chain is cut", sketch.state(14), WORKS);
            checks.same("what was broken round it still is", sketch.state(15), BROKEN);
        }
    }

    private void brokenWishesDoNotCount() {
        PartSketch sketch = withPoints(3);
        sketch.wish(IN_X, 0, 1, 1);
        sketch.wish(IN_X, 0, 1, 2);
        sketch.wish(IN_X, 0, 1, 2);
        sketch.wish(IN_X, 1, 2, 3);
        sketch.wish(IN_X, 0, 2, 4);
        sketch.wish(IN_X, 0, 2, 5);
        checks.same("broken", sketch.state(1), BROKEN);
        checks.same("like a broken one", sketch.state(2), BROKEN);
        checks.same("together with one that works", sketch.state(4), IDLE);
        checks.same("together with a broken one", sketch.state(5), BROKEN);
    }

    private void wishesBehindDoNotCount() {
        PartSketch sketch = withPoints(2);
        sketch.wish(IN_X, 0, 1, 1);
        checks.same("alone", sketch.state(0), WORKS);
        sketch.wish(IN_X, 0, 1, 1);
        sketch.wish(IN_X, 0, 1, 2);
        sketch.wish(AT_HINT, 0, 0, 0);
        checks.same("with others behind it", sketch.state(0), WORKS);
        checks.same("idle with others behind it", sketch.state(1), IDLE);
    }

    /** In x and in y each: nothing ahead, what holds at the hint, and what does not. */
    private void kind2IsJudgedInBothAxes() {
        document.terms("(A wish of the kind 2 is broken if it cannot hold for x or for y; it is idle if it holds for"
                + " both; and if it is broken it does not count for either.)");
        for (int inX = WORKS; inX <= BROKEN; inX++) {
            for (int inY = WORKS; inY <= BROKEN; inY++) {
                boolean broken = inX == BROKEN || inY == BROKEN;
                PartSketch sketch = withPoints(2);
                sketch.wish(AT_HINT, 0, 0, 0);
                int ahead = 1 + ahead(sketch, IN_X, inX, 10) + ahead(sketch, IN_Y, inY, -7);
                sketch.wish(AT_HINT, 1, 0, 0);
                sketch.wish(IN_X, 0, 1, 50);
                sketch.wish(IN_Y, 0, 1, 50);
                String what = "in x " + inX + ", in y " + inY;
                int due = broken ? BROKEN : inX == IDLE && inY == IDLE ? IDLE : WORKS;
                checks.same(what, sketch.state(ahead), due);
                checks.same(what + ": in x then", sketch.state(ahead + 1), broken && inX == WORKS ? WORKS : BROKEN);
                checks.same(what + ": in y then", sketch.state(ahead + 2), broken && inY == WORKS ? WORKS : BROKEN);
                checks.same(what + ": all is tied", sketch.freedom(), 0);
                sketch.remove(ahead + 2);
                sketch.remove(ahead + 1);
                int free = broken ? (inX == WORKS ? 1 : 0) + (inY == WORKS ? 1 : 0) : 0;
                checks.same(what + ": what stays free", sketch.freedom(), free);
            }
        }
    }

    private static int ahead(PartSketch sketch, int axis, int becomes, int difference) {
        if (becomes == WORKS) {
            return 0;
        }
        sketch.wish(axis, 0, 1, becomes == IDLE ? difference : difference + 1);
        return 1;
    }

    private void kind2FollowsItsHint() {
        PartSketch sketch = withPoints(2);
        sketch.wish(AT_HINT, 0, 0, 0);
        sketch.wish(IN_X, 0, 1, 10);
        sketch.wish(IN_Y, 0, 1, -7);
        sketch.wish(AT_HINT, 1, 0, 0);
        checks.same("both hints hold", sketch.state(3), IDLE);
        sketch.hint(1, -69, 53);
        checks.same("a hint one off in x", sketch.state(3), BROKEN);
        sketch.hint(1, -70, 52);
        checks.same("a hint one off in y", sketch.state(3), BROKEN);
        sketch.hint(0, -80, 59);
        checks.same("the other hint goes along", sketch.state(3), IDLE);
    }

    private void twoAtTheirHints() {
        PartSketch sketch = withPoints(2);
        sketch.wish(AT_HINT, 0, 0, 0);
        sketch.wish(AT_HINT, 1, 0, 0);
        sketch.wish(IN_X, 0, 1, 10);
        sketch.wish(IN_X, 0, 1, 11);
        sketch.wish(IN_Y, 1, 0, 7);
        sketch.wish(IN_Y, 1, 0, 6);
        int[] due = {WORKS, WORKS, IDLE, BROKEN, IDLE, BROKEN};
        for (int wish = 0; wish < due.length; wish++) {
            checks.same("two at their hints, wish " + wish, sketch.state(wish), due[wish]);
        }
    }

    /** Forty wishes between two points, each with its number as its size. */
    private static PartSketch withNumbers() {
        PartSketch sketch = withPoints(2);
        for (int i = 0; i < 40; i++) {
            sketch.wish(IN_X, 0, 1, i);
        }
        return sketch;
    }

    private void removeFirstMiddleLast() {
        document.promise(5, "Removes a wish, also from the table; those behind it get numbers that are 1 less, and so"
                + " they do in the table.");
        document.promise(5, "- `wish`: its number");
        for (int gone : new int[] {0, 1, 20, 38, 39}) {
            PartSketch sketch = withNumbers();
            sketch.remove(gone);
            checks.same("wishes after remove " + gone, sketch.wishes(), 39);
            checks.outOfBounds("the last number is free", () -> sketch.state(39));
            for (int i = 0; i < 39; i++) {
                checks.same("size of wish " + i + " after remove " + gone, sketch.type(i, 0), i < gone ? i : i + 1);
            }
        }
    }

    private void removeMovesTheTable() {
        for (int variant = 0; variant < 4; variant++) {
            for (int gone : new int[] {0, 19, 20, 21, 39}) {
                PartSketch sketch = withNumbers();
                sketch.tell(variant, 0, -1);
                sketch.tell(variant, 20, -20);
                sketch.tell(variant, 39, -39);
                sketch.remove(gone);
                int left = gone == 0 || gone == 20 || gone == 39 ? 2 : 3;
                checks.same("told after remove " + gone, sketch.choose(variant), left);
                for (int i = 0; i < 39; i++) {
                    int was = i < gone ? i : i + 1;
                    int due = was == 0 ? -1 : was == 20 || was == 39 ? -was : was;
                    checks.same("size " + i + " after remove " + gone, sketch.type(i, 50), due);
                }
                sketch.wish(IN_Y, 0, 1, 3);
                sketch.choose(variant);
                checks.same("nothing is told of a new wish", sketch.type(39, 0), 3);
            }
        }
    }

    private void removeAnswersWhatBecameOfIt() {
        document.promise(5, "Returns what became of it until now.");
        PartSketch sketch = withPoints(2);
        sketch.wish(IN_X, 0, 1, 3);
        sketch.wish(IN_X, 0, 1, 3);
        sketch.wish(IN_X, 0, 1, 4);
        sketch.type(0, 4);
        checks.same("broken by what was typed last", sketch.remove(1), BROKEN);
        checks.same("idle by what was typed last", sketch.remove(1), IDLE);
        sketch.type(0, 3);
        checks.same("works alone", sketch.remove(0), WORKS);
        sketch.wish(AT_HINT, 0, 0, 0);
        sketch.wish(AT_HINT, 0, 0, 0);
        sketch.wish(IN_X, 0, 1, 11);
        sketch.wish(AT_HINT, 1, 0, 0);
        checks.same("a broken one of the kind 2", sketch.remove(3), BROKEN);
        checks.same("an idle one of the kind 2", sketch.remove(1), IDLE);
        checks.same("one of the kind 2 that works", sketch.remove(0), WORKS);
    }

    private void removeTheOnlyOne() {
        PartSketch sketch = withPoints(2);
        sketch.wish(IN_X, 0, 1, 3);
        checks.same("the only one", sketch.remove(0), WORKS);
        checks.same("none is left", sketch.wishes(), 0);
        checks.outOfBounds("remove of none", () -> sketch.remove(0));
        checks.outOfBounds("state of none", () -> sketch.state(0));
        checks.outOfBounds("type of none", () -> sketch.type(0, 1));
        checks.outOfBounds("tell of none", () -> sketch.tell(0, 0, 1));
        checks.same("x of its own hint", sketch.x(1), -70);
        checks.same("all is free", sketch.freedom(), 4);
    }

    private void removeMakesRoom() {
        PartSketch sketch = withNumbers();
        sketch.remove(0);
        checks.same("room for one", sketch.wish(IN_X, 1, 0, 0), 39);
        checks.badState("and no more", () -> sketch.wish(IN_X, 1, 0, 0));
        for (int i = 0; i < 40; i++) {
            sketch.remove(39 - i);
        }
        checks.same("all are gone", sketch.wishes(), 0);
        checks.same("the first number again", sketch.wish(AT_HINT, 0, 0, 0), 0);
    }

    private void typeTakesEverySize() {
        document.promise(6, "Types the size of a wish.");
        document.promise(6, "- `size`: -100 to 100");
        document.promise(6, "Returns the size before.");
        PartSketch sketch = withPoints(2);
        sketch.wish(IN_X, 0, 1, 0);
        int before = 0;
        for (int size = -100; size <= 100; size++) {
            checks.same("the size before", sketch.type(0, size), before);
            checks.same("x by the typed size", sketch.x(1), -80 + size);
            before = size;
        }
        checks.same("typed as it is", sketch.type(0, 100), 100);
        checks.same("x stays", sketch.x(1), 20);
    }

    private void typeReachesFirstAndLast() {
        document.promise(6, "- `wish`: its number");
        PartSketch sketch = withNumbers();
        checks.same("the first", sketch.type(0, 50), 0);
        checks.same("the last, though it is broken", sketch.type(39, 50), 39);
        checks.same("the last holds now", sketch.state(39), IDLE);
        checks.same("the others don't", sketch.state(38), BROKEN);
    }

    private void typeLeavesTheTable() {
        PartSketch sketch = withPoints(2);
        sketch.wish(IN_X, 0, 1, 1);
        sketch.tell(2, 0, 2);
        sketch.type(0, 3);
        checks.same("the variant still sets its size", sketch.choose(2), 1);
        checks.same("which is read as the size before", sketch.type(0, 2), 2);
        checks.same("the same size is no other", sketch.choose(2), 0);
    }

    private void typeSolvesAnew() {
        PartSketch sketch = withPoints(2);
        sketch.wish(IN_Y, 0, 1, 1);
        sketch.wish(IN_Y, 0, 1, 2);
        checks.same("broken at first", sketch.state(1), BROKEN);
        sketch.type(0, 2);
        checks.same("idle by the size ahead", sketch.state(1), IDLE);
        sketch.type(1, 1);
        checks.same("broken by its own", sketch.state(1), BROKEN);
        checks.same("y by the one that works", sketch.y(1), 62);
    }

    private void stateReachesFirstAndLast() {
        document.promise(7, "Returns what becomes of a wish.");
        document.promise(7, "- `wish`: its number");
        document.promise(7, "Returns WORKS, IDLE or BROKEN.");
        PartSketch sketch = withPoints(3);
        sketch.wish(IN_X, 0, 1, 1);
        checks.same("the first, alone", sketch.state(0), WORKS);
        checks.outOfBounds("behind the only one", () -> sketch.state(1));
        sketch.wish(IN_X, 1, 2, 1);
        sketch.wish(IN_X, 0, 2, 2);
        sketch.wish(IN_X, 0, 2, 3);
        checks.same("works", sketch.state(1), WORKS);
        checks.same("idle", sketch.state(2), IDLE);
        checks.same("the last, broken", sketch.state(3), BROKEN);
        checks.outOfBounds("behind the last", () -> sketch.state(4));
        checks.outOfBounds("ahead of the first", () -> sketch.state(-1));
    }
}
