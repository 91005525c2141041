/** The boundary cases of the terms of machines and of refused calls, and of the promises 20 to 25. */
final class MachineBoundaries {
    private MachineBoundaries() {
    }

    static void run() {
        terms();
        start();
        renew();
        stop();
        runsFrom();
        old();
        oldAt();
    }

    // ---- terms

    private static void terms() {
        machinesAtMostThirty();
        runsFromTheLatestThatCanStart();
        runsUntilRenewedOrStopped();
        hasToBeRenewed();
        ordered();
        refusedCallsChangeNothing();
    }

    private static void machinesAtMostThirty() {
        Check.says(Document.TERMS, "Machines are numbered from 0 as they are started, at most 30.");
        Baker x = Check.made(Settings::bakeAtPlace);
        for (int machine = 0; machine < 30; machine++) {
            Check.due(machine, x.start(0, 0, 0));
            x.stop(machine);
        }
        Check.due(Check.STATE, Check.answerOf(x, y -> y.start(0, 0, 0)));
        Check.due(-1, x.runsFrom(29));
    }

    private static void runsFromTheLatestThatCanStart() {
        Check.says(Document.TERMS, "it runs from the latest bake of the image that is there, not held, not gone, not too old, and in that ring or a higher one");
        Baker x = Check.made(MachineBoundaries::bakesOfAllKinds);
        Check.due(5, x.runsFrom(x.start(0, 0, 0)));
        x.hold(5);
        Check.due(4, x.runsFrom(x.start(0, 0, 0)));
        Check.due(3, x.runsFrom(x.start(0, 0, 1)));
        Check.due(2, x.runsFrom(x.start(0, 0, 2)));
        x.hold(4);
        Check.due(3, x.runsFrom(x.start(0, 0, 0)));
        x.hold(3);
        Check.due(2, x.runsFrom(x.start(0, 0, 0)));
        Check.due(2, x.runsFrom(x.start(0, 0, 1)));
        x.pass(1);
        Check.due(6, x.runsFrom(x.start(0, 0, 0)));
        Check.due(2, x.runsFrom(x.start(0, 0, 1)));
        x.hold(6);
        x.hold(2);
        Check.due(Check.STATE, Check.answerOf(x, y -> y.start(0, 0, 0)));
        Check.due(8, x.runsFrom(x.start(1, 0, 0)));
        neitherGoneNorTooOld();
        fromTheSixtiethBake();
    }

    /** At the place 0: 2 in the ring 2, 3 in the ring 1, 4 and 5 in the ring 0, 6 from tomorrow on; 8 of another image. */
    private static void bakesOfAllKinds(Baker x) {
        Settings.oneBake(x);
        x.setRules(0, 0, 10, 20);
        for (int bake = 1; bake <= 7; bake++) {
            Settings.changeAndBake(x);
        }
        x.add(-1);
        x.bake(1);
        int[] there = {2, 3, 4, 5, 8};
        for (int bake : there) {
            x.copy(bake, 0);
        }
        x.copy(7, 1);
        x.setRules(0, 1, 10, 20);
        x.copy(6, 0);
        raiseOnce(x, 2);
        raiseOnce(x, 2);
        raiseOnce(x, 3);
    }

    private static void raiseOnce(Baker x, int bake) {
        x.test(bake, true);
        x.raise(bake);
    }

    private static void fromTheSixtiethBake() {
        Baker x = Check.made(Settings::sixtyBakes);
        x.setRules(2, 0, 10, 20);
        x.copy(49, 2);
        Check.due(49, x.runsFrom(x.start(9, 2, 0)));
        x.copy(59, 2);
        Check.due(59, x.runsFrom(x.start(9, 2, 0)));
        Check.due(1, x.old());
        Check.due(59, x.renew(0));
        Check.due(0, x.old());
    }

    private static void neitherGoneNorTooOld() {
        Baker gone = Check.made(Settings::bakeAtPlace);
        gone.setRules(0, 0, 99, 2);
        gone.pass(2);
        Check.due(0, gone.start(0, 0, 0));
        gone.stop(0);
        gone.pass(1);
        Check.due(40, gone.state(0));
        Check.due(Check.STATE, Check.answerOf(gone, y -> y.start(0, 0, 0)));
        Baker tooOld = Check.made(Settings::bakeAtPlace);
        tooOld.setRules(0, 0, 2, 99);
        tooOld.pass(2);
        Check.due(0, tooOld.start(0, 0, 0));
        tooOld.pass(1);
        Check.due(Check.STATE, Check.answerOf(tooOld, y -> y.start(0, 0, 0)));
    }

    private static void runsUntilRenewedOrStopped() {
        Check.says(Document.TERMS, "It runs from it until it is renewed or stopped; renewing is starting anew with its place, image and ring.");
        Baker x = Check.made(Settings::bakeAtPlace);
        raiseOnce(x, 0);
        x.start(0, 0, 0);
        x.start(0, 0, 1);
        Settings.changeAndBake(x);
        x.copy(1, 0);
        Check.due(0, x.runsFrom(0));
        Check.due(1, x.renew(0));
        Check.due(1, x.runsFrom(0));
        Check.due(0, x.renew(1));
        x.hold(0);
        x.pass(30);
        Check.due(0, x.runsFrom(1));
        Check.due(0, x.stop(1));
        Check.due(-1, x.runsFrom(1));
    }

    private static void hasToBeRenewed() {
        Check.says(Document.TERMS, "A machine has to be renewed, if its bake is held, or too old, or if renewing would give it another bake.");
        Baker held = Check.made(Settings::twoMachines);
        Check.due(0, held.old());
        held.hold(0);
        Check.due(1, held.old());
        Baker tooOld = Check.made(Settings::twoMachines);
        tooOld.pass(10);
        Check.due(0, tooOld.old());
        tooOld.pass(1);
        Check.due(1, tooOld.old());
        Baker another = Check.made(Settings::twoMachines);
        another.setRules(0, 3, 10, 20);
        Settings.changeAndBake(another);
        Check.due(0, another.old());
        another.copy(1, 0);
        another.pass(2);
        Check.due(0, another.old());
        another.pass(1);
        Check.due(1, another.old());
        another.renew(0);
        Check.due(0, another.old());
    }

    private static void ordered() {
        Check.says(Document.TERMS, "Those that have to are ordered: those whose bakes are held first, then those with bakes of earlier days, then lower numbers.");
        Baker x = Check.made(MachineBoundaries::machinesOfThreeDays);
        orderIs(x);
        x.pass(8);
        orderIs(x, 2, 3);
        x.pass(1);
        orderIs(x, 2, 3, 1, 4);
        x.pass(1);
        orderIs(x, 2, 3, 1, 4, 0, 5);
        x.hold(2);
        orderIs(x, 0, 5, 2, 3, 1, 4);
        x.hold(1);
        orderIs(x, 1, 4, 0, 5, 2, 3);
        x.hold(0);
        orderIs(x, 2, 3, 1, 4, 0, 5);
        x.stop(2);
        x.stop(5);
        orderIs(x, 3, 1, 4, 0);
    }

    /** The bakes 0, 1, 2 of the images 2, 1, 0 are of the days 0, 1, 2; the day is 3. */
    private static void machinesOfThreeDays(Baker x) {
        x.setRules(0, 0, 10, 20);
        for (int image = 0; image < 3; image++) {
            x.add(-1);
        }
        for (int image = 2; image >= 0; image--) {
            x.bake(image);
            x.copy(x.latest(image), 0);
            x.pass(1);
        }
        int[] imagesOfMachines = {0, 1, 2, 2, 1, 0};
        for (int image : imagesOfMachines) {
            x.start(image, 0, 0);
        }
    }

    private static void orderIs(Baker x, int... machines) {
        Check.due(machines.length, x.old());
        for (int place = 0; place < machines.length; place++) {
            Check.due(machines[place], x.oldAt(place));
        }
        Check.due(Check.INDEX, Check.answerOf(x, y -> y.oldAt(machines.length)));
    }

    /** What each promise says of what it throws is tested there; this one asks a single object for all of it. */
    private static void refusedCallsChangeNothing() {
        Check.says(Document.TERMS, "When a call throws, nothing has changed; of several exceptions it is the first one of the throws clause.");
        Check.Call[] ofIndex = {y -> y.add(4), y -> y.step(4, 10), y -> y.bake(4), y -> y.isFresh(-1), y -> y.isFreshAnew(4),
            y -> y.latest(4), y -> y.top(7), y -> y.test(7, false), y -> y.hold(7), y -> y.raise(-1), y -> y.copy(7, 3),
            y -> y.state(7), y -> y.start(4, 3, 3), y -> y.renew(1), y -> y.stop(1), y -> y.runsFrom(3), y -> y.oldAt(2)};
        Check.Call[] ofArgument = {y -> y.step(0, 10), y -> y.change(10, 9), y -> y.copy(2, 3), y -> y.setRules(3, 10, 100, 100),
            y -> y.pass(31), y -> y.start(2, 3, 3)};
        Check.Call[] ofState = {y -> y.test(2, false), y -> y.hold(2), y -> y.raise(2), y -> y.copy(2, 1), y -> y.start(2, 2, 2)};
        refusedOneBehindTheOther(Check.INDEX, ofIndex);
        refusedOneBehindTheOther(Check.ARGUMENT, ofArgument);
        refusedOneBehindTheOther(Check.STATE, ofState);
    }

    private static void refusedOneBehindTheOther(Class<?> want, Check.Call... calls) {
        Check.refused(want, Settings::mixed, x -> {
            for (Check.Call call : calls) {
                Check.due(want, Check.answerOf(x, call));
            }
            return want;
        });
    }

    // ---- promise 20

    private static void start() {
        Check.says(20, "Starts a machine.");
        Baker x = Check.made(Settings::mixed);
        Check.says(20, "Returns its number.");
        Check.due(3, x.start(0, 2, 0));
        Check.due(4, x.runsFrom(3));
        startImages();
        startPlacesAndRings();
        startWithoutBakes();
        startNoMoreThanThirty();
    }

    private static void startImages() {
        Check.says(20, "Throws `IndexOutOfBoundsException` if there is no such image");
        Check.takenAtBothEnds(0, 9, MachineBoundaries::tenImagesThere, (x, image) -> x.start(image, 0, 0));
        Check.refusedOutside(0, -1, Check.INDEX, Settings::nothing, (x, image) -> x.start(image, 0, 0));
        Check.refusedOutside(0, 3, Check.INDEX, Settings::mixed, (x, image) -> x.start(image, 0, 0));
        Check.refusedOutside(0, 9, Check.INDEX, MachineBoundaries::tenImagesThere, (x, image) -> x.start(image, 0, 0));
        // Other arguments are wrong, or there were 30 machines, too: of all exceptions this one is the first.
        Check.refusedOutside(0, 3, Check.INDEX, Settings::mixed, (x, image) -> x.start(image, 3, 0));
        Check.refusedOutside(0, 3, Check.INDEX, Settings::mixed, (x, image) -> x.start(image, 0, -1));
        Check.refusedOutside(0, 0, Check.INDEX, Settings::thirtyMachines, (x, image) -> x.start(image, 0, 0));
        Check.refusedOutside(0, 0, Check.INDEX, Settings::thirtyMachines, (x, image) -> x.start(image, -1, 3));
    }

    private static void tenImagesThere(Baker x) {
        Settings.tenImages(x);
        x.bakeAll();
        x.setRules(0, 0, 10, 20);
        x.copy(0, 0);
        x.copy(9, 0);
    }

    private static void startPlacesAndRings() {
        Check.says(20, "- `place`: 0 to 2");
        Check.takenAtBothEnds(0, 2, MachineBoundaries::everywhereInRingTwo, (x, place) -> x.start(0, place, 0));
        Check.says(20, "- `ring`: 0 to 2");
        Check.takenAtBothEnds(0, 2, MachineBoundaries::everywhereInRingTwo, (x, ring) -> x.start(0, 0, ring));
        Check.says(20, "Throws `IllegalArgumentException` if place or ring is out of range");
        Check.refusedOutside(0, 2, Check.ARGUMENT, MachineBoundaries::everywhereInRingTwo, (x, place) -> x.start(0, place, 0));
        Check.refusedOutside(0, 2, Check.ARGUMENT, MachineBoundaries::everywhereInRingTwo, (x, ring) -> x.start(0, 0, ring));
        Check.refusedOutside(0, 2, Check.ARGUMENT, MachineBoundaries::everywhereInRingTwo, (x, both) -> x.start(0, both, both));
        // There is no bake, or there were 30 machines, too: of both exceptions this one is the first.
        Check.refusedOutside(0, 2, Check.ARGUMENT, Settings::oneImage, (x, place) -> x.start(0, place, 0));
        Check.refusedOutside(0, 2, Check.ARGUMENT, Settings::oneImage, (x, ring) -> x.start(0, 0, ring));
        Check.refusedOutside(0, 2, Check.ARGUMENT, Settings::thirtyMachines, (x, place) -> x.start(0, place, 0));
        Check.refusedOutside(0, 2, Check.ARGUMENT, Settings::thirtyMachines, (x, ring) -> x.start(0, 0, ring));
    }

    private static void everywhereInRingTwo(Baker x) {
        Settings.oneBake(x);
        for (int place = 0; place <= 2; place++) {
            x.copy(0, place);
        }
        raiseOnce(x, 0);
        raiseOnce(x, 0);
        x.pass(1);
    }

    private static void startWithoutBakes() {
        Check.says(20, "Throws `IllegalStateException` if there is no bake for it");
        Check.refused(Check.STATE, Settings::oneImage, x -> x.start(0, 0, 0));
        Check.refused(Check.STATE, Settings::oneBake, x -> x.start(0, 0, 0));
        Check.refused(Check.STATE, Settings::bakeAtPlace, x -> x.start(0, 1, 0));
        Check.refused(Check.STATE, Settings::bakeAtPlace, x -> x.start(0, 0, 1));
        Check.refused(Check.STATE, Settings::heldBake, x -> x.start(0, 0, 0));
        Check.refused(Check.STATE, MachineBoundaries::tooOldAtPlace, x -> x.start(0, 0, 0));
        Check.refused(Check.STATE, MachineBoundaries::goneAtPlace, x -> x.start(0, 0, 0));
        Check.refused(Check.STATE, MachineBoundaries::thereTomorrow, x -> x.start(0, 0, 0));
        Check.refused(Check.STATE, Settings::tenImages, x -> x.start(9, 2, 2));
    }

    private static void tooOldAtPlace(Baker x) {
        Settings.bakeAtPlace(x);
        x.pass(11);
    }

    /** Gone, but not too old. */
    private static void goneAtPlace(Baker x) {
        Settings.bakeAtPlace(x);
        x.setRules(0, 0, 99, 0);
        x.pass(1);
    }

    private static void thereTomorrow(Baker x) {
        Settings.oneBake(x);
        x.copy(0, 0);
    }

    private static void startNoMoreThanThirty() {
        Check.says(20, "or there were 30 machines");
        Baker x = Check.made(Settings::bakeAtPlace);
        for (int machine = 0; machine < 29; machine++) {
            x.start(0, 0, 0);
        }
        Check.due(29, x.start(0, 0, 0));
        Check.refused(Check.STATE, Settings::thirtyMachines, y -> y.start(0, 0, 0));
        Check.refused(Check.STATE, MachineBoundaries::thirtyStoppedMachines, y -> y.start(0, 0, 0));
        Check.refused(Check.STATE, MachineBoundaries::thirtyStoppedMachines, y -> y.start(0, 2, 2));
    }

    private static void thirtyStoppedMachines(Baker x) {
        Settings.bakeAtPlace(x);
        for (int machine = 0; machine < 30; machine++) {
            x.start(0, 0, 0);
            x.stop(machine);
        }
    }

    // ---- promise 21

    private static void renew() {
        Check.says(21, "Renews a machine.");
        Baker x = Check.made(Settings::mixed);
        Check.due(0, x.runsFrom(0));
        Check.says(21, "Returns the bake from which it runs then.");
        Check.due(4, x.renew(0));
        Check.due(4, x.runsFrom(0));
        Check.due(4, x.renew(0));
        Check.says(21, "Throws `IndexOutOfBoundsException` if no such machine runs");
        Check.takenAtBothEnds(0, 29, Settings::thirtyRunningMachines, Baker::renew);
        refusedIfNoSuchMachineRuns(Baker::renew);
        Check.says(21, "Throws `IllegalStateException` if there is no bake for it");
        Check.refused(Check.STATE, Settings::mixed, y -> y.renew(2));
        Check.refused(Check.STATE, MachineBoundaries::runsFromHeld, y -> y.renew(0));
        Check.refused(Check.STATE, MachineBoundaries::runsFromTooOld, y -> y.renew(0));
        // No such machine runs, and there is no bake, either: of both exceptions the first.
        Check.refused(Check.INDEX, MachineBoundaries::runsFromHeld, y -> y.renew(1));
        Check.refused(Check.INDEX, MachineBoundaries::runsFromHeld, y -> y.renew(2));
    }

    private static void runsFromHeld(Baker x) {
        Settings.twoMachines(x);
        x.hold(0);
    }

    /** Only a bake in a lower ring could start. */
    private static void runsFromTooOld(Baker x) {
        Settings.bakeAtPlace(x);
        raiseOnce(x, 0);
        x.start(0, 0, 1);
        x.pass(11);
        Settings.changeAndBake(x);
        x.copy(1, 0);
    }

    private static void refusedIfNoSuchMachineRuns(Check.NumberCall call) {
        refusedIfThereNeverWasSuchAMachine(call);
        Check.refused(Check.INDEX, Settings::mixed, x -> call.on(x, 1));
        Check.refused(Check.INDEX, Settings::thirtyMachines, x -> call.on(x, 0));
        Check.refused(Check.INDEX, MachineBoundaries::thirtyStoppedMachines, x -> call.on(x, 29));
    }

    private static void refusedIfThereNeverWasSuchAMachine(Check.NumberCall call) {
        Check.refusedOutside(0, -1, Check.INDEX, Settings::nothing, call);
        Check.refusedOutside(0, -1, Check.INDEX, Settings::bakeAtPlace, call);
        Check.refusedOutside(0, 2, Check.INDEX, Settings::mixed, call);
        Check.refusedOutside(0, 29, Check.INDEX, Settings::thirtyMachines, call);
    }

    // ---- promise 22

    private static void stop() {
        Check.says(22, "Stops a machine.");
        Baker x = Check.made(Settings::mixed);
        Check.says(22, "Returns the bake from which it ran.");
        Check.due(0, x.stop(0));
        Check.due(1, x.stop(2));
        Check.due(-1, x.runsFrom(0));
        Check.due(-1, x.runsFrom(2));
        Check.due(Check.INDEX, Check.answerOf(x, y -> y.stop(0)));
        Check.says(22, "Throws `IndexOutOfBoundsException` if no such machine runs");
        Check.takenAtBothEnds(0, 29, Settings::thirtyRunningMachines, Baker::stop);
        refusedIfNoSuchMachineRuns(Baker::stop);
    }

    // ---- promise 23

    private static void runsFrom() {
        Check.says(23, "Returns the bake from which a machine runs, -1 if it was stopped.");
        Baker x = Check.made(Settings::mixed);
        Check.due(0, x.runsFrom(0));
        Check.due(-1, x.runsFrom(1));
        Check.due(1, x.runsFrom(2));
        Check.due(-1, Check.made(MachineBoundaries::thirtyStoppedMachines).runsFrom(29));
        Check.says(23, "Throws `IndexOutOfBoundsException` if there never was such a machine");
        Check.takenAtBothEnds(0, 29, Settings::thirtyMachines, Baker::runsFrom);
        refusedIfThereNeverWasSuchAMachine(Baker::runsFrom);
    }

    // ---- promise 24

    private static void old() {
        Check.says(24, "Returns how many machines have to be renewed.");
        Check.due(0, Check.made(Settings::nothing).old());
        Check.due(0, Check.made(Settings::twoMachines).old());
        Check.due(0, Check.made(Settings::thirtyMachines).old());
        Check.due(1, Check.made(MachineBoundaries::runsFromHeld).old());
        Check.due(2, Check.made(Settings::mixed).old());
        Check.due(0, Check.made(MachineBoundaries::thirtyStoppedMachines).old());
        Check.due(30, Check.made(MachineBoundaries::thirtyTooOld).old());
    }

    private static void thirtyTooOld(Baker x) {
        Settings.thirtyRunningMachines(x);
        x.pass(11);
    }

    // ---- promise 25

    private static void oldAt() {
        Check.says(25, "Returns a machine that has to be renewed, in their order.");
        Baker x = Check.made(MachineBoundaries::thirtyTooOld);
        for (int place = 0; place < 30; place++) {
            Check.due(place, x.oldAt(place));
        }
        for (int machine = 0; machine < 29; machine++) {
            x.stop(machine);
        }
        Check.due(29, x.oldAt(0));
        Check.says(25, "- `place`: from 0");
        Check.takenAtBothEnds(0, 29, MachineBoundaries::thirtyTooOld, Baker::oldAt);
        Check.takenAtBothEnds(0, 1, Settings::mixed, Baker::oldAt);
        Check.says(25, "Throws `IndexOutOfBoundsException` if there are not so many");
        Check.refusedOutside(0, -1, Check.INDEX, Settings::nothing, Baker::oldAt);
        Check.refusedOutside(0, -1, Check.INDEX, Settings::thirtyMachines, Baker::oldAt);
        Check.refusedOutside(0, 0, Check.INDEX, MachineBoundaries::runsFromHeld, Baker::oldAt);
        Check.refusedOutside(0, 1, Check.INDEX, Settings::mixed, Baker::oldAt);
        Check.refusedOutside(0, 29, Check.INDEX, MachineBoundaries::thirtyTooOld, Baker::oldAt);
    }
}
