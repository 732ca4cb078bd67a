/** Boundary cases of promises 12 and 13 and of what the terms say of variants. */
final class VariantBoundaries {
    private static final int IN_X = 0, IN_Y = 1, AT_HINT = 2;

    private final Checks checks;
    private final Document document;

    VariantBoundaries(Checks checks, Document document) {
        this.checks = checks;
        this.document = document;
    }

    void run() {
        thereAre4Variants();
        variantsTellApart();
        tellTakesEverySize();
        tellCountsFromOneToForty();
        tellCountsNoSizeTwice();
        tellAfterRemove();
        tellSetsNothing();
        chooseAnswersNone();
        chooseAnswersForty();
        chooseLeavesWhatIsNotTold();
        chooseSolvesAnew();
    }

    private static PartSketch withWishes(int count) {
        PartSketch sketch = new PartSketch();
        sketch.point(0, 0);
        sketch.point(30, 40);
        for (int i = 0; i < count; i++) {
            sketch.wish(i % 2, 0, 1, i);
        }
        return sketch;
    }

    private void thereAre4Variants() {
        document.terms("Variants.");
        document.terms("There is a table of at most 4 variants, numbered from 0, each of which tells for some wishes of"
                + " the kind 0 and 1 a size.");
        document.promise(12, "- `variant`: 0 to 3");
        document.promise(13, "- `variant`: 0 to 3");
        document.promise(13, "Chooses a variant.");
        PartSketch sketch = withWishes(1);
        for (int variant = 0; variant < 4; variant++) {
            checks.same("tell by variant " + variant, sketch.tell(variant, 0, 10 + variant), 1);
        }
        for (int variant = 3; variant >= 0; variant--) {
            checks.same("choose variant " + variant, sketch.choose(variant), 1);
            checks.same("x by it", sketch.x(1), 10 + variant);
        }
        checks.badArgument("tell by variant 4", () -> sketch.tell(4, 0, 1));
        checks.badArgument("choose variant 4", () -> sketch.choose(4));
        checks.same("x still", sketch.x(1), 10);
    }

    private void variantsTellApart() {
        for (int told = 0; told < 4; told++) {
            PartSketch sketch = withWishes(2);
            sketch.tell(told, 1, 55);
            for (int variant = 0; variant < 4; variant++) {
                checks.same("told by " + told + ", chosen " + variant, sketch.choose(variant), variant == told ? 1 : 0);
            }
        }
    }

    private void tellTakesEverySize() {
        document.terms("Choosing a variant sets these sizes.");
        document.promise(12, "Tells a size of a variant.");
        document.promise(12, "- `size`: -100 to 100");
        for (int size = -100; size <= 100; size++) {
            PartSketch sketch = withWishes(1);
            checks.same("tell", sketch.tell(2, 0, size), 1);
            checks.same("choose", sketch.choose(2), size == 0 ? 0 : 1);
            checks.same("x by the told size", sketch.x(1), size);
        }
    }

    private void tellCountsFromOneToForty() {
        document.promise(12, "- `wish`: the number of a wish");
        document.promise(12, "Returns how many sizes the variant tells then.");
        PartSketch sketch = withWishes(40);
        for (int i = 0; i < 40; i++) {
            checks.same("sizes told", sketch.tell(3, 39 - i, -i), i + 1);
        }
        checks.same("another variant tells one", sketch.tell(2, 39, 0), 1);
        checks.outOfBounds("tell of wish 40", () -> sketch.tell(3, 40, 0));
        checks.same("still forty", sketch.tell(3, 0, 0), 40);
    }

    private void tellCountsNoSizeTwice() {
        PartSketch sketch = withWishes(2);
        checks.same("told", sketch.tell(0, 0, 0), 1);
        checks.same("told the same", sketch.tell(0, 0, 0), 1);
        checks.same("told another", sketch.tell(0, 0, -100), 1);
        checks.same("a second one", sketch.tell(0, 1, 100), 2);
        checks.same("told as it is already", sketch.tell(1, 1, 1), 1);
    }

    private void tellAfterRemove() {
        PartSketch sketch = withWishes(3);
        sketch.tell(0, 0, 9);
        sketch.tell(0, 1, 9);
        sketch.tell(1, 2, 9);
        sketch.remove(1);
        checks.same("one of two is left", sketch.tell(0, 0, 9), 1);
        checks.same("one of one is left", sketch.tell(1, 1, 9), 1);
        sketch.remove(0);
        sketch.remove(0);
        sketch.wish(IN_Y, 0, 1, 0);
        checks.same("a new wish is the first one told", sketch.tell(0, 0, 9), 1);
    }

    private void tellSetsNothing() {
        PartSketch sketch = withWishes(2);
        sketch.tell(0, 0, 50);
        checks.same("x ahead of choosing", sketch.x(1), 0);
        sketch.choose(0);
        sketch.tell(0, 0, 60);
        sketch.tell(0, 1, 70);
        checks.same("x told after choosing", sketch.x(1), 50);
        checks.same("y told after choosing", sketch.y(1), 1);
        checks.same("chosen again", sketch.choose(0), 2);
        checks.same("x chosen again", sketch.x(1), 60);
        checks.same("y chosen again", sketch.y(1), 70);
    }

    private void chooseAnswersNone() {
        document.promise(13, "Returns how many wishes get another size by that.");
        PartSketch sketch = withWishes(3);
        checks.same("nothing is told", sketch.choose(0), 0);
        sketch.tell(0, 0, 0);
        sketch.tell(0, 2, 2);
        checks.same("the same sizes are told", sketch.choose(0), 0);
        sketch.tell(0, 2, 3);
        checks.same("one other size", sketch.choose(0), 1);
        checks.same("chosen twice", sketch.choose(0), 0);
        sketch.type(2, 2);
        checks.same("typed in between", sketch.choose(0), 1);
    }

    private void chooseAnswersForty() {
        PartSketch sketch = withWishes(40);
        for (int i = 0; i < 40; i++) {
            sketch.tell(0, i, i - 100);
            sketch.tell(1, i, i == 20 ? 20 : 100);
        }
        checks.same("forty other sizes, of broken wishes too", sketch.choose(0), 40);
        checks.same("the first size", sketch.type(0, 0), -100);
        checks.same("the last size", sketch.type(39, 0), -61);
        checks.same("forty again", sketch.choose(1), 40);
        sketch.choose(0);
        sketch.type(20, 20);
        checks.same("forty but one", sketch.choose(1), 39);
    }

    private void chooseLeavesWhatIsNotTold() {
        PartSketch sketch = withWishes(3);
        sketch.wish(AT_HINT, 0, 0, 0);
        sketch.tell(0, 1, 60);
        checks.same("chosen", sketch.choose(0), 1);
        checks.same("ahead of the told one", sketch.type(0, 0), 0);
        checks.same("the told one", sketch.type(1, 0), 60);
        checks.same("behind the told one", sketch.type(2, 0), 2);
        checks.same("wishes stay", sketch.wishes(), 4);
    }

    private void chooseSolvesAnew() {
        PartSketch sketch = withWishes(1);
        sketch.wish(IN_X, 0, 1, 8);
        sketch.tell(0, 0, 8);
        checks.same("broken at first", sketch.state(1), PartSketch.BROKEN);
        sketch.choose(0);
        checks.same("idle by the chosen size", sketch.state(1), PartSketch.IDLE);
        checks.same("x by the chosen size", sketch.x(1), 8);
        sketch.choose(1);
        checks.same("a variant that tells nothing takes nothing back", sketch.x(1), 8);
    }
}
