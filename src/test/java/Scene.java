/** Sketches of several kinds, each drawn anew as often as it is asked for; at most 100 calls each. */
enum Scene {
    EMPTY(0, 0, -1, 0) {
        @Override
        PartSketch draw() {
            return new PartSketch();
        }
    },

    /** Wishes that work, are idle, are broken; variants; no body. */
    NO_BASE(6, 7, 4, 0) {
        @Override
        PartSketch draw() {
            PartSketch sketch = new PartSketch();
            addPointsAndWishes(sketch);
            return sketch;
        }
    },

    /** The same with a body: one pocket in another, and one that fails. */
    SOME(6, 7, 4, 3) {
        @Override
        PartSketch draw() {
            PartSketch sketch = NO_BASE.draw();
            sketch.setBase(0, 1, 9);
            sketch.pocket(2, 3, 2, -1);
            sketch.pocket(4, 5, 3, 0);
            sketch.pocket(4, 5, 9, -1);
            return sketch;
        }
    },

    /** As many points, wishes and pockets as there can be; the wishes mostly ask for what there is. */
    FULL(16, 40, 2, 8) {
        @Override
        PartSketch draw() {
            PartSketch sketch = new PartSketch();
            for (int i = 0; i < 16; i++) {
                sketch.point(6 * i - 50, 50 - 5 * i);
            }
            addFortyWishes(sketch);
            sketch.setBase(0, 15, 50);
            for (int i = 0; i < 8; i++) {
                sketch.pocket(i, 15 - i, 3 + i % 4, i / 2 - 1);
            }
            return sketch;
        }
    };

    final int points;
    final int wishes;
    /** The number of a wish of the kind 2. */
    final int atHint;
    final int pockets;

    Scene(int points, int wishes, int atHint, int pockets) {
        this.points = points;
        this.wishes = wishes;
        this.atHint = atHint;
        this.pockets = pockets;
    }

    abstract PartSketch draw();

    private static void addPointsAndWishes(PartSketch sketch) {
        sketch.point(0, 0);
        sketch.point(30, 20);
        sketch.point(2, 2);
        sketch.point(12, 14);
        sketch.point(4, 4);
        sketch.point(9, 9);
        sketch.wish(0, 0, 1, 40);
        sketch.wish(1, 1, 0, -25);
        sketch.wish(0, 1, 0, -40);
        sketch.wish(1, 0, 1, 24);
        sketch.wish(2, 3, 0, 0);
        sketch.wish(0, 2, 3, 10);
        sketch.wish(2, 2, 0, 0);
        sketch.tell(0, 0, 50);
        sketch.tell(1, 1, 0);
        sketch.tell(1, 3, -100);
        sketch.tell(3, 5, 11);
        sketch.tell(3, 0, 40);
    }

    private static void addFortyWishes(PartSketch sketch) {
        for (int i = 0; i < 40; i++) {
            int one = i % 16;
            int other = (3 * i + 1) % 16;
            int kind = i % 7 == 2 ? 2 : i % 2;
            int size = (kind == 0 ? 6 : -5) * (other - one);
            sketch.wish(kind, one, other, i % 5 == 4 ? size + 1 : size);
        }
        for (int variant = 0; variant < 4; variant++) {
            sketch.tell(variant, 0, variant);
            sketch.tell(variant, 39, 50 - variant);
        }
    }
}
