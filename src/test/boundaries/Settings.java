/** What is done to an object ahead of the calls that a test is about. */
final class Settings {
    private Settings() {
    }

    static void nothing(Baker x) {
    }

    static void oneImage(Baker x) {
        x.add(-1);
    }

    /** One image with one step of the input 0, and its bake 0. */
    static void oneBake(Baker x) {
        x.add(-1);
        x.step(0, 0);
        x.bake(0);
    }

    /** The same, with the bake at the place 0 from today on. */
    static void bakeAtPlace(Baker x) {
        oneBake(x);
        x.setRules(0, 0, 10, 20);
        x.copy(0, 0);
    }

    static void changeAndBake(Baker x) {
        x.change(0, -1);
        x.bake(0);
    }

    static void heldBake(Baker x) {
        bakeAtPlace(x);
        x.hold(0);
    }

    static void goneBake(Baker x) {
        oneBake(x);
        x.pass(21);
    }

    /** Gone, and held ahead of that. */
    static void goneHeldBake(Baker x) {
        oneBake(x);
        x.hold(0);
        x.pass(21);
    }

    /** One machine runs, and the next one was stopped. */
    static void twoMachines(Baker x) {
        bakeAtPlace(x);
        x.start(0, 0, 0);
        x.start(0, 0, 0);
        x.stop(1);
    }

    /** Of all something: 4 images, 7 bakes (2 and 3 gone, 6 held), 3 machines (1 stopped), rules, versions, copies. */
    static void mixed(Baker x) {
        x.add(-1);
        x.add(0);
        x.add(1);
        x.add(-1);
        x.step(0, 0);
        x.step(0, 1);
        x.step(1, 2);
        x.step(3, 9);
        x.change(9, -1);
        x.change(9, -1);
        x.change(9, 0);
        x.change(0, -1);
        x.setRules(1, 3, 4, 6);
        x.setRules(2, 0, 4, 6);
        x.bakeAll();
        x.copy(0, 0);
        x.copy(0, 2);
        x.copy(1, 2);
        x.copy(2, 1);
        x.test(0, true);
        x.raise(0);
        x.test(0, true);
        x.start(0, 2, 0);
        x.start(0, 2, 1);
        x.start(3, 2, 0);
        x.pass(7);
        x.change(0, -1);
        x.bakeAll();
        x.copy(4, 0);
        x.copy(4, 2);
        x.copy(5, 1);
        x.test(4, true);
        x.hold(6);
        x.stop(1);
    }

    /** Ten images, each the next one's parent, of which only the first has a step. */
    static void tenImages(Baker x) {
        for (int image = 0; image < 10; image++) {
            x.add(image - 1);
        }
        x.step(0, 0);
    }

    static void fiftyNineBakes(Baker x) {
        x.add(-1);
        x.add(0);
        x.step(0, 0);
        for (int i = 0; i < 29; i++) {
            x.bakeAll();
            x.change(0, -1);
        }
        x.bake(0);
    }

    /** All of the ten images are fresh. */
    static void sixtyBakes(Baker x) {
        tenImages(x);
        for (int i = 0; i < 6; i++) {
            x.change(0, -1);
            x.bakeAll();
        }
    }

    /** Sixty bakes, and a change that would make more. */
    static void sixtyBakesOutOfDate(Baker x) {
        sixtyBakes(x);
        x.change(0, -1);
    }

    static void thirtyRunningMachines(Baker x) {
        bakeAtPlace(x);
        for (int machine = 0; machine < 30; machine++) {
            x.start(0, 0, 0);
        }
    }

    /** The first one was stopped. */
    static void thirtyMachines(Baker x) {
        thirtyRunningMachines(x);
        x.stop(0);
    }
}
