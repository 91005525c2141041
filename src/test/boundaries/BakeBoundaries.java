/** The boundary cases of the terms of rings, places and days, and of the promises 13 to 19. */
final class BakeBoundaries {
    private BakeBoundaries() {
    }

    static void run() {
        terms();
        test();
        hold();
        raise();
        copy();
        setRules();
        pass();
        state();
    }

    // ---- terms

    private static void terms() {
        ringsFromNoughtToTwo();
        raisedOnlyIfATestPassedInItsRing();
        nothingLetsItGo();
        placesFromNoughtToTwo();
        thereFromTheDayOfItsDelay();
        tooOldBehindTheStartAge();
        goneBehindTheKeepAge();
        notGoneWhileAMachineRunsFromIt();
    }

    private static void ringsFromNoughtToTwo() {
        Check.says(Document.TERMS, "Rings are 0 to 2.");
        Baker x = Check.made(Settings::bakeAtPlace);
        for (int ring = 0; ring <= 2; ring++) {
            Check.due(ring, x.state(0));
            x.test(0, true);
            Check.due(ring == 2 ? Check.STATE : ring + 1, Check.answerOf(x, y -> y.raise(0)));
        }
        Check.due(0, x.start(0, 0, 2));
        Check.due(Check.ARGUMENT, Check.answerOf(x, y -> y.start(0, 0, 3)));
    }

    private static void raisedOnlyIfATestPassedInItsRing() {
        Check.says(Document.TERMS, "A bake can be raised to the next ring, unless it is held, or gone, and only if a test of it has passed in the ring where it is; tests that fail hold it, whatever passed before.");
        Baker x = Check.made(Settings::oneBake);
        Check.due(Check.STATE, Check.answerOf(x, y -> y.raise(0)));
        x.test(0, true);
        x.test(0, true);
        Check.due(1, x.raise(0));
        Check.due(Check.STATE, Check.answerOf(x, y -> y.raise(0)));
        x.test(0, true);
        Check.due(true, x.test(0, false));
        Check.due(Check.STATE, Check.answerOf(x, y -> y.raise(0)));
        Check.due(11, x.state(0));
        raisedIfTooOldButNotGone();
    }

    private static void raisedIfTooOldButNotGone() {
        Baker x = Check.made(Settings::oneBake);
        x.pass(20);
        x.test(0, true);
        Check.due(1, x.raise(0));
        x.test(0, true);
        x.pass(1);
        Check.due(Check.STATE, Check.answerOf(x, y -> y.raise(0)));
        Check.due(61, x.state(0));
    }

    private static void nothingLetsItGo() {
        Check.says(Document.TERMS, "A bake can be held by hand, too; nothing lets it go.");
        Baker x = Check.made(Settings::heldBake);
        Check.due(10, x.state(0));
        Check.due(true, x.test(0, true));
        Check.due(true, x.test(0, false));
        Check.due(0, x.bake(0));
        x.copy(0, 1);
        x.setRules(0, 9, 99, 99);
        x.pass(1);
        Check.due(10, x.state(0));
    }

    private static void placesFromNoughtToTwo() {
        Check.says(Document.TERMS, "Places are 0 to 2.");
        Baker x = Check.made(Settings::oneBake);
        for (int place = 0; place <= 2; place++) {
            int to = place;
            Check.due("set", x.setRules(to, to, 10, 20));
            Check.due(to, x.copy(0, to));
        }
        x.pass(2);
        for (int place = 0; place <= 2; place++) {
            Check.due(place, x.start(0, place, 0));
        }
    }

    private static void thereFromTheDayOfItsDelay() {
        Check.says(Document.TERMS, "A bake that is copied to a place is there from the day on that comes as many days later as the delay of the place tells, 1 at first.");
        Baker first = Check.made(Settings::oneBake);
        for (int place = 0; place <= 2; place++) {
            int to = place;
            Check.due(1, first.copy(0, to));
            Check.due(Check.STATE, Check.answerOf(first, y -> y.start(0, to, 0)));
        }
        first.pass(1);
        for (int place = 0; place <= 2; place++) {
            Check.due(place, first.start(0, place, 0));
        }
        for (int delay = 0; delay <= 9; delay++) {
            thereBehind(delay);
        }
    }

    private static void thereBehind(int delay) {
        Baker x = Check.made(Settings::oneBake);
        x.setRules(1, delay, 99, 99);
        x.pass(5);
        Check.due(5 + delay, x.copy(0, 1));
        for (int day = 0; day < delay; day++) {
            Check.due(Check.STATE, Check.answerOf(x, y -> y.start(0, 1, 0)));
            x.pass(1);
        }
        Check.due(0, x.start(0, 1, 0));
    }

    private static void tooOldBehindTheStartAge() {
        Check.says(Document.TERMS, "A bake is too old to start, if more than the start age, 10 days at first, have gone by since it was made.");
        Baker x = Check.made(Settings::oneBake);
        x.copy(0, 0);
        x.pass(10);
        Check.due(0, x.state(0));
        Check.due(0, x.start(0, 0, 0));
        x.pass(1);
        Check.due(20, x.state(0));
        Check.due(Check.STATE, Check.answerOf(x, y -> y.start(0, 0, 0)));
        int[] ages = {0, 1, 99};
        for (int age : ages) {
            tooOldBehind(age);
        }
    }

    private static void tooOldBehind(int age) {
        Baker x = Check.made(Settings::oneBake);
        x.setRules(0, 0, age, 99);
        passOneByOne(x, age);
        Check.due(0, x.state(0));
        x.pass(1);
        Check.due(age == 99 ? 60 : 20, x.state(0));
    }

    private static void passOneByOne(Baker x, int days) {
        for (int day = 0; day < days; day++) {
            Check.due(0, x.pass(1));
        }
    }

    private static void goneBehindTheKeepAge() {
        Check.says(Document.TERMS, "At the end of a day, when the next one has begun, all bakes are gone that are older than the keep age, 20 days at first, and from which no machine runs.");
        Baker x = Check.made(Settings::oneBake);
        x.pass(3);
        Settings.changeAndBake(x);
        passOneByOne(x, 17);
        Check.due(20, x.state(0));
        Check.due(1, x.pass(1));
        Check.due(60, x.state(0));
        Check.due(20, x.state(1));
        passOneByOne(x, 2);
        Check.due(1, x.pass(1));
        Check.due(60, x.state(1));
        int[] ages = {0, 1, 99};
        for (int age : ages) {
            goneBehind(age);
        }
        goneOnlyWhenADayEnds();
    }

    private static void goneBehind(int age) {
        Baker x = Check.made(Settings::oneBake);
        x.setRules(0, 0, 99, age);
        passOneByOne(x, age);
        Check.due(0, x.state(0));
        Check.due(1, x.pass(1));
        Check.due(age == 99 ? 60 : 40, x.state(0));
    }

    private static void goneOnlyWhenADayEnds() {
        Baker x = Check.made(Settings::oneBake);
        x.pass(5);
        x.setRules(0, 0, 99, 0);
        Check.due(0, x.state(0));
        Check.due(5, x.copy(0, 0));
        Check.due(0, x.start(0, 0, 0));
        Check.due(0, x.stop(0));
        Check.due(0, x.state(0));
        Check.due(1, x.pass(1));
        Check.due(40, x.state(0));
        x.setRules(0, 0, 99, 99);
        Check.due(0, x.pass(1));
        Check.due(40, x.state(0));
    }

    private static void notGoneWhileAMachineRunsFromIt() {
        Check.says(Document.TERMS, "and from which no machine runs");
        Baker x = Check.made(Settings::bakeAtPlace);
        x.start(0, 0, 0);
        x.start(0, 0, 0);
        Check.due(0, x.pass(30));
        x.stop(0);
        Check.due(0, x.pass(30));
        x.stop(1);
        Check.due(20, x.state(0));
        Check.due(1, x.pass(1));
        Check.due(60, x.state(0));
        goneWhenItsMachineIsRenewed();
    }

    private static void goneWhenItsMachineIsRenewed() {
        Baker x = Check.made(Settings::bakeAtPlace);
        x.start(0, 0, 0);
        Check.due(0, x.pass(21));
        Settings.changeAndBake(x);
        x.copy(1, 0);
        x.renew(0);
        Check.due(1, x.pass(1));
        Check.due(60, x.state(0));
        Check.due(0, x.state(1));
    }

    // ---- promise 13

    private static void test() {
        Check.says(13, "Tells of a test of a bake in the ring where it is.");
        Baker x = Check.made(Settings::oneBake);
        Check.says(13, "- `passed`: whether it has passed");
        Check.due(false, x.test(0, true));
        Check.due(1, x.raise(0));
        Check.says(13, "Returns whether the bake is held then.");
        Check.due(true, x.test(0, false));
        Check.due(true, x.test(0, true));
        Check.due(true, Check.made(Settings::heldBake).test(0, true));
        Check.says(13, "Throws `IndexOutOfBoundsException` if there never was such a bake");
        Check.takenAtBothEnds(0, 59, Settings::sixtyBakes, (y, bake) -> y.test(bake, true));
        refusedIfThereNeverWasSuchABake((y, bake) -> y.test(bake, true));
        refusedIfThereNeverWasSuchABake((y, bake) -> y.test(bake, false));
        Check.says(13, "Throws `IllegalStateException` if it is gone");
        Check.refused(Check.STATE, Settings::goneBake, y -> y.test(0, true));
        Check.refused(Check.STATE, Settings::goneBake, y -> y.test(0, false));
        Check.refused(Check.STATE, Settings::goneHeldBake, y -> y.test(0, true));
        Check.refused(Check.STATE, Settings::mixed, y -> y.test(3, false));
    }

    private static void refusedIfThereNeverWasSuchABake(Check.NumberCall call) {
        Check.refusedOutside(0, -1, Check.INDEX, Settings::oneImage, call);
        Check.refusedOutside(0, 0, Check.INDEX, Settings::goneBake, call);
        Check.refusedOutside(0, 6, Check.INDEX, Settings::mixed, call);
        Check.refusedOutside(0, 59, Check.INDEX, Settings::sixtyBakes, call);
    }

    // ---- promise 14

    private static void hold() {
        Check.says(14, "Holds a bake.");
        Baker x = Check.made(Settings::oneBake);
        Check.due(0, x.state(0));
        x.hold(0);
        Check.due(10, x.state(0));
        Check.says(14, "Returns from how many machines it runs.");
        Check.due(0, Check.made(Settings::oneBake).hold(0));
        Check.due(1, Check.made(Settings::twoMachines).hold(0));
        Check.due(29, Check.made(Settings::thirtyMachines).hold(0));
        Check.due(30, Check.made(Settings::thirtyRunningMachines).hold(0));
        Check.says(14, "Throws `IndexOutOfBoundsException` if there never was such a bake");
        Check.takenAtBothEnds(0, 59, Settings::sixtyBakes, Baker::hold);
        refusedIfThereNeverWasSuchABake(Baker::hold);
        Check.says(14, "Throws `IllegalStateException` if it is gone, or held");
        Check.refused(Check.STATE, Settings::goneBake, y -> y.hold(0));
        Check.refused(Check.STATE, Settings::heldBake, y -> y.hold(0));
        Check.refused(Check.STATE, Settings::goneHeldBake, y -> y.hold(0));
        Check.refused(Check.STATE, BakeBoundaries::failedBake, y -> y.hold(0));
        Check.refused(Check.STATE, Settings::mixed, y -> y.hold(6));
    }

    private static void failedBake(Baker x) {
        Settings.oneBake(x);
        x.test(0, true);
        x.test(0, false);
    }

    // ---- promise 15

    private static void raise() {
        Check.says(15, "Raises a bake.");
        Baker x = Check.made(Settings::bakeAtPlace);
        x.test(0, true);
        Check.says(15, "Returns its ring then.");
        Check.due(1, x.raise(0));
        Check.due(1, x.state(0));
        x.test(0, true);
        Check.due(2, x.raise(0));
        Check.due(2, x.state(0));
        Check.says(15, "Throws `IndexOutOfBoundsException` if there never was such a bake");
        Check.takenAtBothEnds(0, 59, BakeBoundaries::sixtyBakesTestedAtTheEnds, Baker::raise);
        refusedIfThereNeverWasSuchABake(Baker::raise);
        raiseOnlyInItsState();
    }

    private static void sixtyBakesTestedAtTheEnds(Baker x) {
        Settings.sixtyBakes(x);
        x.test(0, true);
        x.test(59, true);
    }

    private static void raiseOnlyInItsState() {
        Check.says(15, "Throws `IllegalStateException` if it is gone, held, in the ring 2, or no test of it has passed in its ring");
        Check.refused(Check.STATE, Settings::oneBake, y -> y.raise(0));
        Check.refused(Check.STATE, BakeBoundaries::passedAndGone, y -> y.raise(0));
        Check.refused(Check.STATE, BakeBoundaries::passedAndHeld, y -> y.raise(0));
        Check.refused(Check.STATE, BakeBoundaries::failedBake, y -> y.raise(0));
        Check.refused(Check.STATE, BakeBoundaries::passedWhenHeld, y -> y.raise(0));
        Check.refused(Check.STATE, BakeBoundaries::inRingOne, y -> y.raise(0));
        Check.refused(Check.STATE, BakeBoundaries::inRingTwo, y -> y.raise(0));
        Check.refused(Check.STATE, BakeBoundaries::passedInRingTwo, y -> y.raise(0));
        Check.refused(Check.STATE, BakeBoundaries::anotherBakePassed, y -> y.raise(0));
    }

    private static void passedAndGone(Baker x) {
        Settings.oneBake(x);
        x.test(0, true);
        x.pass(21);
    }

    private static void passedAndHeld(Baker x) {
        Settings.oneBake(x);
        x.test(0, true);
        x.hold(0);
    }

    private static void passedWhenHeld(Baker x) {
        Settings.oneBake(x);
        x.hold(0);
        x.test(0, true);
    }

    private static void inRingOne(Baker x) {
        Settings.oneBake(x);
        x.test(0, true);
        x.test(0, true);
        x.raise(0);
    }

    private static void inRingTwo(Baker x) {
        inRingOne(x);
        x.test(0, true);
        x.raise(0);
    }

    private static void passedInRingTwo(Baker x) {
        inRingTwo(x);
        x.test(0, true);
    }

    private static void anotherBakePassed(Baker x) {
        Settings.oneBake(x);
        Settings.changeAndBake(x);
        x.test(1, true);
    }

    // ---- promise 16

    private static void copy() {
        Check.says(16, "Copies a bake to a place.");
        Baker x = Check.made(Settings::mixed);
        x.copy(4, 1);
        Check.says(16, "Returns the day from which on it is there.");
        Check.due(7, x.copy(5, 2));
        Check.due(8, x.copy(5, 0));
        Check.due(10, x.copy(6, 1));
        copyBakes();
        copyPlaces();
        copyOnlyInItsState();
    }

    private static void copyBakes() {
        Check.says(16, "Throws `IndexOutOfBoundsException` if there never was such a bake");
        Check.takenAtBothEnds(0, 59, Settings::sixtyBakes, (x, bake) -> x.copy(bake, 0));
        refusedIfThereNeverWasSuchABake((x, bake) -> x.copy(bake, 0));
        // Both arguments are wrong: of both exceptions this one is the first.
        refusedIfThereNeverWasSuchABake((x, bake) -> x.copy(bake, 3));
        refusedIfThereNeverWasSuchABake((x, bake) -> x.copy(bake, -1));
    }

    private static void copyPlaces() {
        Check.says(16, "- `place`: 0 to 2");
        Check.takenAtBothEnds(0, 2, Settings::oneBake, (x, place) -> x.copy(0, place));
        Check.says(16, "Throws `IllegalArgumentException` if place is out of range");
        Check.refusedOutside(0, 2, Check.ARGUMENT, Settings::oneBake, (x, place) -> x.copy(0, place));
        // The bake is gone, or at all places, too: of both exceptions this one is the first.
        Check.refusedOutside(0, 2, Check.ARGUMENT, Settings::goneBake, (x, place) -> x.copy(0, place));
        Check.refusedOutside(0, 2, Check.ARGUMENT, BakeBoundaries::atAllPlaces, (x, place) -> x.copy(0, place));
    }

    private static void atAllPlaces(Baker x) {
        Settings.oneBake(x);
        for (int place = 0; place <= 2; place++) {
            x.copy(0, place);
        }
    }

    private static void copyOnlyInItsState() {
        Check.says(16, "Throws `IllegalStateException` if it is gone, or was copied there");
        for (int i = 0; i <= 2; i++) {
            int place = i;
            Check.refused(Check.STATE, Settings::goneBake, x -> x.copy(0, place));
            Check.refused(Check.STATE, BakeBoundaries::atAllPlaces, x -> x.copy(0, place));
        }
        Check.refused(Check.STATE, Settings::bakeAtPlace, x -> x.copy(0, 0));
        Check.refused(Check.STATE, Settings::mixed, x -> x.copy(5, 1));
        Check.refused(Check.STATE, BakeBoundaries::thereTomorrow, x -> x.copy(0, 0));
        Check.refused(Check.STATE, BakeBoundaries::thereButFarNow, x -> x.copy(0, 0));
        Baker held = Check.made(Settings::heldBake);
        Check.due(1, held.copy(0, 1));
        Baker tooOld = Check.made(Settings::oneBake);
        tooOld.pass(20);
        Check.due(21, tooOld.copy(0, 0));
    }

    /** A copy that was made now would be there today. */
    private static void thereTomorrow(Baker x) {
        Settings.oneBake(x);
        x.copy(0, 0);
        x.setRules(0, 0, 10, 20);
    }

    /** A copy that was made now would be there in nine days. */
    private static void thereButFarNow(Baker x) {
        Settings.bakeAtPlace(x);
        x.setRules(0, 9, 10, 20);
    }

    // ---- promise 17

    private static void setRules() {
        Check.says(17, "Sets the delay of a place, and both ages.");
        Baker x = Check.made(Settings::oneBake);
        x.setRules(1, 4, 2, 3);
        Check.due(1, x.copy(0, 0));
        Check.due(4, x.copy(0, 1));
        Check.due(1, x.copy(0, 2));
        x.pass(3);
        Check.due(20, x.state(0));
        x.setRules(2, 4, 3, 3);
        Check.due(0, x.state(0));
        Check.due(1, x.pass(1));
        setRulesPlaces();
        setRulesDelays();
        setRulesAges();
    }

    private static void setRulesPlaces() {
        Check.says(17, "- `place`: 0 to 2");
        Check.takenAtBothEnds(0, 2, Settings::mixed, (x, place) -> x.setRules(place, 0, 0, 0));
        Check.says(17, "Throws `IllegalArgumentException` if place, delay, start or keep is out of range");
        Check.refusedOutside(0, 2, Check.ARGUMENT, Settings::nothing, (x, place) -> x.setRules(place, 9, 1, 2));
        Check.refusedOutside(0, 2, Check.ARGUMENT, Settings::mixed, (x, place) -> x.setRules(place, 9, 1, 2));
        Check.refusedOutside(0, 2, Check.ARGUMENT, Settings::mixed, (x, place) -> x.setRules(place, 10, -1, 100));
    }

    private static void setRulesDelays() {
        Check.says(17, "- `delay`: 0 to 9");
        Check.takenAtBothEnds(0, 9, Settings::mixed, (x, delay) -> x.setRules(0, delay, 1, 2));
        for (int i = 0; i <= 2; i++) {
            int place = i;
            Check.refusedOutside(0, 9, Check.ARGUMENT, Settings::mixed, (x, delay) -> x.setRules(place, delay, 1, 2));
        }
        Baker x = Check.made(Settings::oneBake);
        x.setRules(0, 9, 10, 20);
        x.setRules(1, 0, 10, 20);
        Check.due(9, x.copy(0, 0));
        Check.due(0, x.copy(0, 1));
    }

    private static void setRulesAges() {
        Check.says(17, "- `start`: 0 to 99");
        Check.takenAtBothEnds(0, 99, Settings::mixed, (x, start) -> x.setRules(0, 1, start, 2));
        Check.refusedOutside(0, 99, Check.ARGUMENT, Settings::mixed, (x, start) -> x.setRules(0, 9, start, 2));
        Check.says(17, "- `keep`: 0 to 99");
        Check.takenAtBothEnds(0, 99, Settings::mixed, (x, keep) -> x.setRules(0, 1, 2, keep));
        Check.refusedOutside(0, 99, Check.ARGUMENT, Settings::mixed, (x, keep) -> x.setRules(0, 9, 1, keep));
    }

    // ---- promise 18

    private static void pass() {
        Check.says(18, "Lets days go by.");
        Baker x = Check.made(Settings::oneBake);
        x.pass(1);
        Check.due(2, x.copy(0, 0));
        x.pass(15);
        Check.due(17, x.copy(0, 1));
        Check.says(18, "Returns how many bakes went.");
        Check.due(0, x.pass(4));
        Check.due(1, x.pass(1));
        Check.due(0, x.pass(30));
        Check.due(60, Check.made(Settings::sixtyBakes).pass(30));
        Check.due(0, Check.made(Settings::nothing).pass(30));
        Check.due(0, Check.made(Settings::thirtyMachines).pass(30));
        Check.says(18, "- `days`: 1 to 30");
        Check.takenAtBothEnds(1, 30, Settings::mixed, Baker::pass);
        Baker longest = Check.made(Settings::oneImage);
        longest.pass(30);
        longest.bake(0);
        Check.due(31, longest.copy(0, 0));
        Check.says(18, "Throws `IllegalArgumentException` if days is out of range");
        Check.refusedOutside(1, 30, Check.ARGUMENT, Settings::nothing, Baker::pass);
        Check.refusedOutside(1, 30, Check.ARGUMENT, Settings::mixed, Baker::pass);
        Check.refused(Check.ARGUMENT, Settings::mixed, y -> y.pass(-1));
        Check.refused(Check.ARGUMENT, BakeBoundaries::atTheKeepAge, y -> y.pass(0));
    }

    private static void atTheKeepAge(Baker x) {
        Settings.oneBake(x);
        x.pass(20);
    }

    // ---- promise 19

    private static void state() {
        Check.says(19, "Returns the state of a bake: its ring, plus 10 if it is held, plus 20 if it is too old to start, plus 40 if it is gone.");
        Baker x = Check.made(BakeBoundaries::inRingTwo);
        Check.due(2, x.state(0));
        x.hold(0);
        Check.due(12, x.state(0));
        x.pass(11);
        Check.due(32, x.state(0));
        x.pass(10);
        Check.due(72, x.state(0));
        x.setRules(0, 0, 99, 99);
        Check.due(52, x.state(0));
        Check.due(0, Check.made(Settings::oneBake).state(0));
        Check.due(10, Check.made(Settings::heldBake).state(0));
        Check.due(20, Check.made(BakeBoundaries::atTheKeepAge).state(0));
        Check.due(60, Check.made(Settings::goneBake).state(0));
        Check.due(70, Check.made(Settings::goneHeldBake).state(0));
        Check.says(19, "Throws `IndexOutOfBoundsException` if there never was such a bake");
        Check.takenAtBothEnds(0, 59, Settings::sixtyBakes, Baker::state);
        refusedIfThereNeverWasSuchABake(Baker::state);
    }
}
