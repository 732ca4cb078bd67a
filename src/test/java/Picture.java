/**
 * All that can be seen of a sketch, as a text. Taking a picture uses the sketch up, so that there
 * are three kinds of them, each for a sketch of its own, and each of at most 220 calls: with some
 * 100 calls that drew the sketch they stay below 512.
 */
final class Picture {
    enum Kind { PLACES, SIZES, REMOVES }

    private interface Call {
        int answer();
    }

    private static final int POINTS = 16, WISHES = 40, POCKETS = 8, VARIANTS = 4;
    /** A size that no scene uses. */
    private static final int OTHER_SIZE = 77;

    private final PartSketch sketch;
    private final StringBuilder seen = new StringBuilder();

    private Picture(PartSketch sketch) {
        this.sketch = sketch;
    }

    static String of(PartSketch sketch, Kind kind) {
        Picture picture = new Picture(sketch);
        switch (kind) {
            case PLACES -> picture.takePlaces();
            case SIZES -> picture.takeSizes();
            default -> picture.takeRemoves();
        }
        return picture.seen.toString();
    }

    private void see(Call call) {
        try {
            seen.append(call.answer());
        } catch (RuntimeException e) {
            seen.append(e.getClass().getSimpleName());
        }
        seen.append(' ');
    }

    private void title(String text) {
        seen.append(text).append(": ");
    }

    private void takePlaces() {
        seePlaces();
        title("states");
        see(sketch::wishes);
        for (int i = 0; i <= WISHES; i++) {
            int wish = i;
            see(() -> sketch.state(wish));
        }
        seeBody();
        title("with what is added");
        see(() -> sketch.point(3, 4));
        see(() -> sketch.wish(0, 0, 1, 9));
        see(() -> sketch.pocket(0, 1, 1, -1));
        see(() -> sketch.setBase(0, 1, 50) ? 1 : 0);
        seeBody();
        see(sketch::freedom);
    }

    private void seePlaces() {
        title("places");
        see(sketch::freedom);
        for (int i = 0; i < POINTS; i++) {
            int point = i;
            see(() -> sketch.x(point));
            see(() -> sketch.y(point));
        }
    }

    private void seeBody() {
        title("body");
        for (int i = 0; i <= POCKETS; i++) {
            int pocket = i;
            see(() -> sketch.fails(pocket) ? 1 : 0);
        }
        see(sketch::volume);
        see(sketch::price);
    }

    private void takeSizes() {
        title("sizes");
        seeSizes();
        for (int i = 0; i < VARIANTS; i++) {
            int variant = i;
            title("variant " + variant);
            see(() -> sketch.choose(variant));
            seeSizes();
            see(() -> sketch.tell(variant, 0, OTHER_SIZE));
        }
    }

    private void seeSizes() {
        for (int i = 0; i <= WISHES; i++) {
            int wish = i;
            see(() -> sketch.type(wish, OTHER_SIZE));
        }
    }

    private void takeRemoves() {
        title("removes");
        for (int i = 0; i <= WISHES; i++) {
            see(() -> sketch.remove(0));
            see(sketch::freedom);
        }
        seePlaces();
        seeBody();
    }
}
