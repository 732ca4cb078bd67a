/**
 * The sentences that say what a method throws: each with all numbers next to its edge and far
 * beyond it, on sketches of several kinds; and of two that apply, the one documented first.
 */
final class RefusedCalls {
    private static final int IN_X = 0, IN_Y = 1, AT_HINT = 2;
    private static final int MIN = Integer.MIN_VALUE, MAX = Integer.MAX_VALUE;
    private static final int[] NO_REACH = {-101, 101, 1000, MIN, MAX};
    private static final int[] NO_DEPTH = {0, 51, -1, 64, MIN, MAX};
    private static final int[] NO_KIND = {-1, 3, MIN, MAX};
    private static final int[] NO_VARIANT = {-1, 4, MIN, MAX};

    private final Document document;
    private final Refusals refusals;

    RefusedCalls(Checks checks, Document document) {
        this.document = document;
        refusals = new Refusals(checks);
    }

    void run() {
        document.terms("A method that throws an exception changes nothing.");
        document.terms("If several exceptions apply, the one that is documented first is thrown.");
        pointOutOfRange();
        pointWhenFull();
        hintOfNoPoint();
        hintOutOfRange();
        wishOfNoKind();
        wishOutOfRange();
        wishOfOnePoint();
        wishOfNoPoint();
        wishWhenFull();
        wishOfTheKind2();
        removeNoWish();
        typeNoWish();
        typeTheKind2();
        typeOutOfRange();
        lookAtNothing();
        tellOutOfRange();
        tellNoWish();
        tellTheKind2();
        chooseNoVariant();
        baseOfNoPoint();
        baseOfNoHeight();
        pocketOfNoPoint();
        pocketInNoPocket();
        pocketOfNoDepth();
        pocketWithoutBase();
        pocketWhenFull();
    }

    /** Numbers that none of so many things bears. */
    private static int[] beyond(int count) {
        return new int[] {-1, count, count + 1, 63, -2, MIN, MAX};
    }

    private void pointOutOfRange() {
        document.promise(2, "Throws `IllegalArgumentException` if x or y is out of range");
        for (Scene scene : Scene.values()) {
            for (int far : NO_REACH) {
                refusals.badArgument(scene, "point, x " + far, s -> s.point(far, 0));
                refusals.badArgument(scene, "point, y " + far, s -> s.point(0, far));
                refusals.badArgument(scene, "point, both " + far, s -> s.point(far, far));
            }
        }
    }

    private void pointWhenFull() {
        document.promise(2, "Throws `IllegalStateException` if there are 16");
        refusals.badState(Scene.FULL, "point 16", s -> s.point(0, 0));
        refusals.badState(Scene.FULL, "point 16 at an edge", s -> s.point(-100, 100));
    }

    private void hintOfNoPoint() {
        document.promise(3, "Throws `IndexOutOfBoundsException` if there is no such point");
        for (Scene scene : Scene.values()) {
            for (int none : beyond(scene.points)) {
                refusals.outOfBounds(scene, "hint of point " + none, s -> s.hint(none, 1, 1));
                refusals.outOfBounds(scene, "hint of point " + none + ", x 101", s -> s.hint(none, 101, 1));
                refusals.outOfBounds(scene, "hint of point " + none + ", y -101", s -> s.hint(none, 1, -101));
            }
        }
    }

    private void hintOutOfRange() {
        document.promise(3, "Throws `IllegalArgumentException` if x or y is out of range");
        for (int far : NO_REACH) {
            refusals.badArgument(Scene.SOME, "hint, x " + far, s -> s.hint(0, far, 1));
            refusals.badArgument(Scene.SOME, "hint, y " + far, s -> s.hint(3, 1, far));
            refusals.badArgument(Scene.FULL, "hint, x " + far, s -> s.hint(15, far, 1));
            refusals.badArgument(Scene.FULL, "hint, y " + far, s -> s.hint(15, 1, far));
        }
    }

    private void wishOfNoKind() {
        document.promise(4, "Throws `IllegalArgumentException` if kind is out of range;");
        for (int none : NO_KIND) {
            refusals.badArgument(Scene.SOME, "wish of the kind " + none, s -> s.wish(none, 0, 1, 1));
            refusals.badArgument(Scene.EMPTY, "no point either, kind " + none, s -> s.wish(none, 0, 1, 1));
            refusals.badArgument(Scene.SOME, "no other either, kind " + none, s -> s.wish(none, 0, 6, 1));
            refusals.badArgument(Scene.FULL, "full too, kind " + none, s -> s.wish(none, 0, 1, 1));
        }
    }

    private void wishOutOfRange() {
        document.promise(4, "or, for the kinds 0 and 1, size is out of range,");
        for (int far : NO_REACH) {
            for (int kind = IN_X; kind <= IN_Y; kind++) {
                int each = kind;
                refusals.badArgument(Scene.SOME, "wish, size " + far, s -> s.wish(each, 0, 2, far));
                refusals.badArgument(Scene.EMPTY, "no point, size " + far, s -> s.wish(each, 0, 1, far));
                refusals.badArgument(Scene.SOME, "no other, size " + far, s -> s.wish(each, 0, 6, far));
                refusals.badArgument(Scene.FULL, "full too, size " + far, s -> s.wish(each, 0, 1, far));
            }
        }
    }

    private void wishOfOnePoint() {
        document.promise(4, "or one and other are the same");
        for (int kind = IN_X; kind <= IN_Y; kind++) {
            int each = kind;
            for (int size : new int[] {0, 1, 101}) {
                refusals.badArgument(Scene.SOME, "one is other, size " + size, s -> s.wish(each, 5, 5, size));
            }
            for (int none : beyond(6)) {
                refusals.badArgument(Scene.SOME, "both are " + none, s -> s.wish(each, none, none, 0));
            }
            refusals.badArgument(Scene.FULL, "full too, one is other", s -> s.wish(each, 0, 0, 0));
            refusals.badArgument(Scene.FULL, "full too, no such points", s -> s.wish(each, 16, 16, 0));
        }
    }

    private void wishOfNoPoint() {
        document.promise(4, "Throws `IndexOutOfBoundsException` if there is no point one;");
        document.promise(4, "or, for the kinds 0 and 1, no point other");
        for (Scene scene : Scene.values()) {
            for (int none : beyond(scene.points)) {
                int another = none == 0 ? 1 : 0;
                for (int kind = IN_X; kind <= IN_Y; kind++) {
                    int each = kind;
                    refusals.outOfBounds(scene, "no point one " + none, s -> s.wish(each, none, another, 1));
                    refusals.outOfBounds(scene, "no point other " + none, s -> s.wish(each, another, none, 1));
                }
                refusals.outOfBounds(scene, "kind 2, no point " + none, s -> s.wish(AT_HINT, none, 0, 1));
                refusals.outOfBounds(scene, "kind 2, twice " + none, s -> s.wish(AT_HINT, none, none, 101));
            }
        }
    }

    private void wishWhenFull() {
        document.promise(4, "Throws `IllegalStateException` if there are 40 wishes");
        for (int kind = IN_X; kind <= AT_HINT; kind++) {
            int each = kind;
            refusals.badState(Scene.FULL, "wish 40 of the kind " + kind, s -> s.wish(each, 0, 1, 1));
        }
        refusals.badState(Scene.FULL, "wish 40, nothing else matters", s -> s.wish(AT_HINT, 15, MAX, MIN));
    }

    /** What throws for the kinds 0 and 1 alone must not be asked of the kind 2 before what does. */
    private void wishOfTheKind2() {
        document.promise(4, "- `other`: the number of another point; for the kind 2 it does not matter");
        document.promise(4, "- `size`: -100 to 100; for the kind 2 it does not matter");
        refusals.outOfBounds(Scene.SOME, "no point, nor a size", s -> s.wish(AT_HINT, 6, 6, 101));
        refusals.outOfBounds(Scene.SOME, "no points, nor a size", s -> s.wish(AT_HINT, -1, 9, MIN));
        refusals.outOfBounds(Scene.FULL, "full, no point, nor a size", s -> s.wish(AT_HINT, 16, 0, MAX));
    }

    private void removeNoWish() {
        document.promise(5, "Throws `IndexOutOfBoundsException` if there is no such wish");
        for (Scene scene : Scene.values()) {
            for (int none : beyond(scene.wishes)) {
                refusals.outOfBounds(scene, "remove " + none, s -> s.remove(none));
            }
        }
    }

    private void typeNoWish() {
        document.promise(6, "Throws `IndexOutOfBoundsException` if there is no such wish");
        for (Scene scene : Scene.values()) {
            for (int none : beyond(scene.wishes)) {
                refusals.outOfBounds(scene, "type " + none, s -> s.type(none, 1));
                refusals.outOfBounds(scene, "type " + none + ", size 101", s -> s.type(none, 101));
            }
        }
    }

    private void typeTheKind2() {
        document.promise(6, "Throws `IllegalStateException` if it is of the kind 2");
        for (Scene scene : new Scene[] {Scene.NO_BASE, Scene.SOME, Scene.FULL}) {
            for (int size : new int[] {0, -100, 100, 101, -101, MIN, MAX}) {
                refusals.badState(scene, "type the kind 2, size " + size, s -> s.type(scene.atHint, size));
            }
        }
    }

    private void typeOutOfRange() {
        document.promise(6, "Throws `IllegalArgumentException` if size is out of range");
        for (int far : NO_REACH) {
            refusals.badArgument(Scene.SOME, "type 0, size " + far, s -> s.type(0, far));
            refusals.badArgument(Scene.SOME, "type a broken one, size " + far, s -> s.type(3, far));
            refusals.badArgument(Scene.FULL, "type 39, size " + far, s -> s.type(39, far));
        }
    }

    private void lookAtNothing() {
        document.promise(7, "Throws `IndexOutOfBoundsException` if there is no such wish");
        document.promise(10, "Throws `IndexOutOfBoundsException` if there is no such point");
        document.promise(11, "Throws `IndexOutOfBoundsException` if there is no such point");
        document.promise(16, "Throws `IndexOutOfBoundsException` if there is no such pocket");
        for (Scene scene : Scene.values()) {
            for (int none : beyond(scene.wishes)) {
                refusals.outOfBounds(scene, "state of " + none, s -> s.state(none));
            }
            for (int none : beyond(scene.points)) {
                refusals.outOfBounds(scene, "x of " + none, s -> s.x(none));
                refusals.outOfBounds(scene, "y of " + none, s -> s.y(none));
            }
            for (int none : beyond(scene.pockets)) {
                refusals.outOfBounds(scene, "fails of " + none, s -> s.fails(none));
            }
        }
    }

    private void tellOutOfRange() {
        document.promise(12, "Throws `IllegalArgumentException` if variant or size is out of range");
        for (int none : NO_VARIANT) {
            refusals.badArgument(Scene.SOME, "tell, variant " + none, s -> s.tell(none, 0, 1));
            refusals.badArgument(Scene.FULL, "tell, variant " + none, s -> s.tell(none, 39, 1));
            refusals.badArgument(Scene.EMPTY, "no wish, variant " + none, s -> s.tell(none, 0, 1));
            refusals.badArgument(Scene.SOME, "the kind 2, variant " + none, s -> s.tell(none, 4, 1));
        }
        for (int far : NO_REACH) {
            refusals.badArgument(Scene.SOME, "tell, size " + far, s -> s.tell(0, 0, far));
            refusals.badArgument(Scene.SOME, "tell a first one, size " + far, s -> s.tell(2, 5, far));
            refusals.badArgument(Scene.FULL, "tell, size " + far, s -> s.tell(3, 39, far));
            refusals.badArgument(Scene.EMPTY, "no wish, size " + far, s -> s.tell(0, 0, far));
            refusals.badArgument(Scene.SOME, "wish -1, size " + far, s -> s.tell(0, -1, far));
            refusals.badArgument(Scene.SOME, "the kind 2, size " + far, s -> s.tell(0, 4, far));
        }
    }

    private void tellNoWish() {
        document.promise(12, "Throws `IndexOutOfBoundsException` if there is no such wish");
        for (Scene scene : Scene.values()) {
            for (int none : beyond(scene.wishes)) {
                refusals.outOfBounds(scene, "tell of wish " + none, s -> s.tell(0, none, 1));
                refusals.outOfBounds(scene, "tell of wish " + none + " by 3", s -> s.tell(3, none, -100));
            }
        }
    }

    private void tellTheKind2() {
        document.promise(12, "Throws `IllegalStateException` if the wish is of the kind 2");
        for (Scene scene : new Scene[] {Scene.NO_BASE, Scene.SOME, Scene.FULL}) {
            for (int variant = 0; variant < 4; variant++) {
                int each = variant;
                refusals.badState(scene, "tell of the kind 2", s -> s.tell(each, scene.atHint, 0));
            }
        }
    }

    private void chooseNoVariant() {
        document.promise(13, "Throws `IllegalArgumentException` if variant is out of range");
        for (Scene scene : Scene.values()) {
            for (int none : NO_VARIANT) {
                refusals.badArgument(scene, "choose " + none, s -> s.choose(none));
            }
        }
    }

    private void baseOfNoPoint() {
        document.promise(14, "Throws `IndexOutOfBoundsException` if there is no such point");
        for (Scene scene : Scene.values()) {
            for (int none : beyond(scene.points)) {
                refusals.outOfBounds(scene, "base, no one " + none, s -> s.setBase(none, 0, 8));
                refusals.outOfBounds(scene, "base, no other " + none, s -> s.setBase(0, none, 8));
                refusals.outOfBounds(scene, "base, neither " + none, s -> s.setBase(none, none, 8));
                refusals.outOfBounds(scene, "no height, no one " + none, s -> s.setBase(none, 0, 0));
                refusals.outOfBounds(scene, "no height, no other " + none, s -> s.setBase(0, none, 51));
            }
        }
    }

    private void baseOfNoHeight() {
        document.promise(14, "Throws `IllegalArgumentException` if height is out of range");
        for (int none : NO_DEPTH) {
            refusals.badArgument(Scene.NO_BASE, "no base, height " + none, s -> s.setBase(0, 1, none));
            refusals.badArgument(Scene.SOME, "another base, height " + none, s -> s.setBase(0, 3, none));
            refusals.badArgument(Scene.FULL, "another base, height " + none, s -> s.setBase(0, 14, none));
            refusals.badArgument(Scene.SOME, "a base of one point, height " + none, s -> s.setBase(2, 2, none));
        }
    }

    private void pocketOfNoPoint() {
        document.promise(15, "Throws `IndexOutOfBoundsException` if there is no such point or pocket");
        for (Scene scene : Scene.values()) {
            for (int none : beyond(scene.points)) {
                refusals.outOfBounds(scene, "pocket, no one " + none, s -> s.pocket(none, 0, 1, -1));
                refusals.outOfBounds(scene, "pocket, no other " + none, s -> s.pocket(0, none, 1, -1));
                refusals.outOfBounds(scene, "pocket, neither " + none, s -> s.pocket(none, none, 1, -1));
                refusals.outOfBounds(scene, "no depth, no one " + none, s -> s.pocket(none, 0, 51, -1));
                refusals.outOfBounds(scene, "no depth, no other " + none, s -> s.pocket(0, none, 0, -1));
            }
        }
    }

    private void pocketInNoPocket() {
        for (Scene scene : Scene.values()) {
            for (int none : beyond(scene.pockets)) {
                if (none != -1) {
                    refusals.outOfBounds(scene, "pocket in " + none, s -> s.pocket(0, 1, 1, none));
                    refusals.outOfBounds(scene, "no depth, in " + none, s -> s.pocket(0, 1, 0, none));
                }
            }
        }
    }

    private void pocketOfNoDepth() {
        document.promise(15, "Throws `IllegalArgumentException` if depth is out of range");
        for (int none : NO_DEPTH) {
            refusals.badArgument(Scene.SOME, "pocket, depth " + none, s -> s.pocket(2, 3, none, -1));
            refusals.badArgument(Scene.SOME, "pocket in another, depth " + none, s -> s.pocket(2, 3, none, 2));
            refusals.badArgument(Scene.NO_BASE, "no base, depth " + none, s -> s.pocket(2, 3, none, -1));
            refusals.badArgument(Scene.FULL, "full too, depth " + none, s -> s.pocket(2, 3, none, 7));
        }
    }

    private void pocketWithoutBase() {
        document.promise(15, "Throws `IllegalStateException` if there is no base, or there are 8 pockets");
        refusals.badState(Scene.NO_BASE, "no base", s -> s.pocket(2, 3, 1, -1));
        refusals.badState(Scene.NO_BASE, "no base, a pocket of one point", s -> s.pocket(2, 2, 50, -1));
    }

    private void pocketWhenFull() {
        refusals.badState(Scene.FULL, "pocket 8", s -> s.pocket(2, 3, 1, -1));
        refusals.badState(Scene.FULL, "pocket 8 in the last", s -> s.pocket(15, 0, 50, 7));
    }
}
