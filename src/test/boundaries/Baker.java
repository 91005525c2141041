/** An ImageBaker that counts its calls, so that no test leans on what the document leaves free: calls behind the 512th. */
final class Baker {
    private static final int MOST_CALLS = 512;

    private final ImageBaker x = new ImageBaker();
    private int calls = 0;

    private ImageBaker counted() {
        calls++;
        if (calls > MOST_CALLS) {
            throw new AssertionError("a test makes more than 512 calls on one object");
        }
        return x;
    }

    int calls() { return calls; }

    int add(int parent) { return counted().add(parent); }
    int step(int image, int input) { return counted().step(image, input); }
    int change(int input, int version) { return counted().change(input, version); }
    int bake(int image) { return counted().bake(image); }
    int bakeAll() { return counted().bakeAll(); }
    boolean isFresh(int image) { return counted().isFresh(image); }
    boolean isFreshAnew(int image) { return counted().isFreshAnew(image); }
    int layers() { return counted().layers(); }
    int bakes() { return counted().bakes(); }
    int latest(int image) { return counted().latest(image); }
    int top(int bake) { return counted().top(bake); }
    boolean test(int bake, boolean passed) { return counted().test(bake, passed); }
    int hold(int bake) { return counted().hold(bake); }
    int raise(int bake) { return counted().raise(bake); }
    int copy(int bake, int place) { return counted().copy(bake, place); }
    int pass(int days) { return counted().pass(days); }
    int state(int bake) { return counted().state(bake); }
    int start(int image, int place, int ring) { return counted().start(image, place, ring); }
    int renew(int machine) { return counted().renew(machine); }
    int stop(int machine) { return counted().stop(machine); }
    int runsFrom(int machine) { return counted().runsFrom(machine); }
    int old() { return counted().old(); }
    int oldAt(int place) { return counted().oldAt(place); }

    /** Answers "set", so that it can stand where other calls answer. */
    String setRules(int place, int delay, int start, int keep) {
        counted().setRules(place, delay, start, keep);
        return "set";
    }
}
