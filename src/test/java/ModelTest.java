import java.util.Random;

/**
 * Runs of 512 calls, the same ones each time, made on the class and on the model. Some calls are
 * wrong in one argument, some in several; after each a look is taken at something of the state, and
 * now and then at all of it.
 */
public final class ModelTest {
    private static final int RUNS = 600;
    private static final int CALLS = 512;
    private static final int[] EDGES =
            {-101, -100, 100, 101, Integer.MIN_VALUE, Integer.MAX_VALUE, 16, 40, -1, -2, 0, 51, 50};
    private static final Checks checks = new Checks();

    private final Random random;
    private final PartSketch sketch = new PartSketch();
    private final Model model = new Model();
    private final String run;
    /** How far hints and sizes go in this run: small ones make idle wishes and pockets that fit. */
    private final int reach;
    private final int points;
    private int calls = 0;
    private int seenStates = 0;
    private int seenFails = 0;

    private ModelTest(int seed) {
        random = new Random(seed);
        run = "run " + seed;
        reach = new int[] {1, 3, 8, 12, 25}[seed % 5];
        points = 2 + random.nextInt(15);
    }

    public static void main(String[] args) {
        int states = 0;
        int fails = 0;
        for (int seed = 0; seed < RUNS; seed++) {
            ModelTest test = new ModelTest(seed);
            test.play();
            states |= test.seenStates;
            fails |= test.seenFails;
        }
        checks.same("runs with wishes that work, are idle, are broken", states, 7);
        checks.same("runs with pockets that stand, and that fail", fails, 3);
        checks.end();
    }

    private void play() {
        for (int i = 0; i < points; i++) {
            point(size(), size());
        }
        while (calls < CALLS) {
            change();
            if (calls == CALLS) {
                break;
            }
            look(random.nextInt(8));
            if (random.nextInt(20) == 0) {
                lookAtAll();
            }
        }
    }

    private boolean oneIn(int times) {
        return random.nextInt(times) == 0;
    }

    private int mostly(int number) {
        return oneIn(60) ? EDGES[random.nextInt(EDGES.length)] : number;
    }

    private int size() {
        return mostly(random.nextInt(2 * reach + 1) - reach);
    }

    private int depth() {
        return mostly(1 + random.nextInt(oneIn(5) ? 50 : 4));
    }

    private int somePoint() {
        return mostly(random.nextInt(points));
    }

    private int someWish() {
        return mostly(random.nextInt(model.wishes() + 1));
    }

    private int somePocket() {
        return mostly(random.nextInt(9) - 1);
    }

    private void change() {
        int which = random.nextInt(100);
        if (which < 4) {
            point(size(), size());
        } else if (which < 20) {
            hint(somePoint(), size(), size());
        } else if (which < 48) {
            wish(mostly(random.nextInt(7) / 3), somePoint(), somePoint(), size());
        } else if (which < 66) {
            remove(someWish());
        } else if (which < 74) {
            type(someWish(), size());
        } else if (which < 82) {
            tell(mostly(random.nextInt(4)), someWish(), size());
        } else if (which < 86) {
            choose(mostly(random.nextInt(4)));
        } else if (which < 92) {
            setBase(somePoint(), somePoint(), mostly(1 + random.nextInt(oneIn(3) ? 50 : 12)));
        } else {
            pocket(somePoint(), somePoint(), depth(), somePocket());
        }
    }

    private void look(int which) {
        switch (which) {
            case 0 -> state(someWish());
            case 1 -> same("wishes()", () -> sketch.wishes(), model.wishes());
            case 2 -> same("freedom()", () -> sketch.freedom(), model.freedom());
            case 3 -> x(somePoint());
            case 4 -> y(somePoint());
            case 5 -> fails(somePocket());
            case 6 -> volume();
            default -> price();
        }
    }

    private void lookAtAll() {
        if (calls + 100 > CALLS) {
            return;
        }
        for (int wish = 0; wish < model.wishes(); wish++) {
            state(wish);
        }
        for (int point = 0; point < 16; point++) {
            x(point);
            y(point);
        }
        for (int pocket = 0; pocket < 8; pocket++) {
            fails(pocket);
        }
        for (int which = 1; which < 8; which++) {
            look(which);
        }
    }

    private interface Call {
        int answer();
    }

    private void same(String what, Call call, int due) {
        calls++;
        int got;
        try {
            got = call.answer();
        } catch (RuntimeException e) {
            got = thrown(e);
        }
        checks.same(run + ", call " + calls + ": " + what, got, due);
    }

    /** The machine's own exceptions are of classes below these, and answer to none. */
    private static int thrown(RuntimeException e) {
        if (e.getClass() == IndexOutOfBoundsException.class) {
            return Model.OUT_OF_BOUNDS;
        }
        if (e.getClass() == IllegalArgumentException.class) {
            return Model.BAD_ARGUMENT;
        }
        return e.getClass() == IllegalStateException.class ? Model.BAD_STATE : 1_000_000_099;
    }

    private static String row(String name, int... numbers) {
        StringBuilder text = new StringBuilder(name).append('(');
        for (int i = 0; i < numbers.length; i++) {
            text.append(i == 0 ? "" : ", ").append(numbers[i]);
        }
        return text.append(')').toString();
    }

    private void point(int x, int y) {
        same(row("point", x, y), () -> sketch.point(x, y), model.point(x, y));
    }

    private void hint(int point, int x, int y) {
        Call call = () -> {
            sketch.hint(point, x, y);
            return 0;
        };
        same(row("hint", point, x, y), call, model.hint(point, x, y));
    }

    private void wish(int kind, int one, int other, int size) {
        same(row("wish", kind, one, other, size), () -> sketch.wish(kind, one, other, size),
                model.wish(kind, one, other, size));
    }

    private void remove(int wish) {
        same(row("remove", wish), () -> sketch.remove(wish), model.remove(wish));
    }

    private void type(int wish, int size) {
        same(row("type", wish, size), () -> sketch.type(wish, size), model.type(wish, size));
    }

    private void state(int wish) {
        int due = model.state(wish);
        seenStates |= due >= 0 && due <= 2 ? 1 << due : 0;
        same(row("state", wish), () -> sketch.state(wish), due);
    }

    private void x(int point) {
        same(row("x", point), () -> sketch.x(point), model.x(point));
    }

    private void y(int point) {
        same(row("y", point), () -> sketch.y(point), model.y(point));
    }

    private void tell(int variant, int wish, int size) {
        same(row("tell", variant, wish, size), () -> sketch.tell(variant, wish, size),
                model.tell(variant, wish, size));
    }

    private void choose(int variant) {
        same(row("choose", variant), () -> sketch.choose(variant), model.choose(variant));
    }

    private void setBase(int one, int other, int height) {
        same(row("setBase", one, other, height), () -> sketch.setBase(one, other, height) ? 1 : 0,
                model.setBase(one, other, height));
    }

    private void pocket(int one, int other, int depth, int in) {
        same(row("pocket", one, other, depth, in), () -> sketch.pocket(one, other, depth, in),
                model.pocket(one, other, depth, in));
    }

    private void fails(int pocket) {
        int due = model.fails(pocket);
        seenFails |= due == 0 || due == 1 ? 1 << due : 0;
        same(row("fails", pocket), () -> sketch.fails(pocket) ? 1 : 0, due);
    }

    /** The model counts cells one by one, so that it is not asked about the largest bodies. */
    private boolean canCount() {
        return model.columns() <= 20_000;
    }

    private void volume() {
        if (canCount()) {
            same("volume()", () -> sketch.volume(), model.volume());
        } else {
            calls++;
        }
    }

    private void price() {
        if (canCount()) {
            same("price()", () -> sketch.price(), model.price());
        } else {
            calls++;
        }
    }
}
