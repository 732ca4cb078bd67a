/**
 * Calls that throw. Each is made on a sketch that is then compared, by all that can be seen of it,
 * with a twin that was drawn alike and was spared the call.
 */
final class Refusals {
    interface Call {
        void on(PartSketch sketch);
    }

    private final Checks checks;

    Refusals(Checks checks) {
        this.checks = checks;
    }

    void outOfBounds(Scene scene, String what, Call call) {
        refused(scene, what, IndexOutOfBoundsException.class, call);
    }

    void badArgument(Scene scene, String what, Call call) {
        refused(scene, what, IllegalArgumentException.class, call);
    }

    void badState(Scene scene, String what, Call call) {
        refused(scene, what, IllegalStateException.class, call);
    }

    private void refused(Scene scene, String what, Class<? extends RuntimeException> due, Call call) {
        for (Picture.Kind kind : Picture.Kind.values()) {
            refused(scene.draw(), scene.draw(), kind, scene + ": " + what, due, call);
        }
        // What is known of a sketch may be kept from an earlier look.
        PartSketch called = scene.draw();
        PartSketch spared = scene.draw();
        called.price();
        spared.price();
        refused(called, spared, Picture.Kind.PLACES, scene + ", looked at: " + what, due, call);
    }

    private void refused(PartSketch called, PartSketch spared, Picture.Kind kind, String what,
            Class<? extends RuntimeException> due, Call call) {
        checks.thrown(what, due, () -> call.on(called));
        checks.text(what + " changes nothing", Picture.of(called, kind), Picture.of(spared, kind));
    }
}
