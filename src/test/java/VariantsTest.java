/** Promises 12 and 13: tell, choose. */
public final class VariantsTest {
    private static final Checks checks = new Checks();

    public static void main(String[] args) {
        promise12();
        promise12Throws();
        promise13();
        everySizeCanBeTold();
        checks.end();
    }

    /** Wish 0 in x of the size 5, wish 1 in y of the size 6, wish 2 of the kind 2. */
    private static PartSketch withThreeWishes() {
        PartSketch sketch = new PartSketch();
        sketch.point(1, 2);
        sketch.point(30, 40);
        sketch.wish(0, 0, 1, 5);
        sketch.wish(1, 0, 1, 6);
        sketch.wish(2, 0, 0, 0);
        return sketch;
    }

    private static void promise12() {
        PartSketch sketch = withThreeWishes();
        checks.same("a first size", sketch.tell(0, 0, 100), 1);
        checks.same("a second size", sketch.tell(0, 1, -100), 2);
        checks.same("a size told anew", sketch.tell(0, 0, 7), 2);
        checks.same("a size of another variant", sketch.tell(3, 0, 8), 1);
        checks.same("telling sets nothing", sketch.x(1), 6);
        checks.same("the size that there is can be told", sketch.tell(2, 0, 5), 1);
    }

    private static void promise12Throws() {
        PartSketch sketch = withThreeWishes();
        checks.badArgument("variant 4", () -> sketch.tell(4, 0, 0));
        checks.badArgument("variant -1", () -> sketch.tell(-1, 0, 0));
        checks.badArgument("size 101", () -> sketch.tell(0, 0, 101));
        checks.badArgument("size -101", () -> sketch.tell(0, 0, -101));
        checks.badArgument("variant 4 and no such wish", () -> sketch.tell(4, 9, 0));
        checks.badArgument("size 101 and no such wish", () -> sketch.tell(0, 9, 101));
        checks.badArgument("size 101 and the kind 2", () -> sketch.tell(0, 2, 101));
        checks.outOfBounds("no such wish", () -> sketch.tell(0, 3, 0));
        checks.outOfBounds("wish -1", () -> sketch.tell(0, -1, 0));
        checks.badState("the kind 2", () -> sketch.tell(0, 2, 0));
        checks.same("nothing is told by calls that threw", sketch.tell(0, 0, 1), 1);
    }

    private static void promise13() {
        PartSketch sketch = withThreeWishes();
        checks.same("a variant that tells nothing", sketch.choose(0), 0);
        sketch.tell(0, 0, 50);
        sketch.tell(0, 1, 6);
        sketch.tell(1, 1, -9);
        checks.badArgument("variant 4", () -> sketch.choose(4));
        checks.badArgument("variant -1", () -> sketch.choose(-1));
        checks.same("x after chooses that threw", sketch.x(1), 6);
        checks.same("only one gets another size", sketch.choose(0), 1);
        checks.same("x by the chosen size", sketch.x(1), 51);
        checks.same("y by the size that stays", sketch.y(1), 8);
        checks.same("chosen again", sketch.choose(0), 0);
        checks.same("another variant", sketch.choose(1), 1);
        checks.same("what it doesn't tell stays", sketch.x(1), 51);
        checks.same("y by the other variant", sketch.y(1), -7);
        checks.same("the first one anew", sketch.choose(0), 1);
        checks.same("a typed size is over what was chosen", sketch.type(0, 4), 50);
        checks.same("and is overwritten by choosing again", sketch.choose(0), 1);
        sketch.tell(0, 0, 3);
        checks.same("telling the chosen variant sets nothing", sketch.type(0, 50), 50);
        sketch.tell(2, 0, 0);
        sketch.tell(2, 1, 0);
        checks.same("two get another size", sketch.choose(2), 2);
        sketch.wish(0, 0, 1, 0);
        checks.same("a wish behind it holds by the chosen size", sketch.state(3), PartSketch.IDLE);
        sketch.choose(0);
        checks.same("and is broken by another", sketch.state(3), PartSketch.BROKEN);
    }

    private static void everySizeCanBeTold() {
        PartSketch sketch = withThreeWishes();
        for (int size = -100; size <= 100; size++) {
            checks.same("a size of the variant", sketch.tell(1, 1, size), 1);
            checks.same("chosen, size " + size, sketch.choose(1), 1);
        }
    }
}
