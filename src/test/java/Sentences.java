import java.util.function.Supplier;

/** Tests of the document's sentences, each by itself; one class for each part of the document. */
abstract class Sentences extends Scenes {
    interface Use {
        void on(Clockhouse x);
    }

    final Checks checks;
    private final Document document;

    Sentences(Document document, Checks checks) {
        this.document = document;
        this.checks = checks;
    }

    abstract void testAll();

    final void test(String section, String beginning, Runnable test) {
        document.test(section, beginning, test);
    }

    static int[] outside(int least, int most) {
        return new int[] {Integer.MIN_VALUE, Integer.MIN_VALUE + 1, least - 1, most + 1, Integer.MAX_VALUE - 1,
            Integer.MAX_VALUE};
    }

    final void dueTaken(String call, Use use, Clockhouse x) {
        checks.dueNoThrow(call, () -> use.on(x));
    }

    /** The call throws as is due, and an object that was so called answers all that follows as one that was not. */
    final void dueRefused(String call, Class<? extends RuntimeException> want, Supplier<Clockhouse> scene, Use use) {
        Clockhouse x = scene.get();
        checks.dueThrowOf(call, want, () -> use.on(x));
        checks.due("all that follows " + call, futureOf(scene.get()), futureOf(x));
    }
}
