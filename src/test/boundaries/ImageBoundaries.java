/** The boundary cases of the terms of images, layers and bakes, and of the promises 1 to 12. */
final class ImageBoundaries {
    private ImageBoundaries() {
    }

    static void run() {
        terms();
        aNewObject();
        add();
        step();
        change();
        bake();
        bakeAll();
        fresh();
        counts();
        latestAndTop();
    }

    // ---- terms

    private static void terms() {
        usedForFiveHundredAndTwelveCalls();
        freshIsToldInTwoWays();
        daysFromNought();
        inputsFromNoughtToNine();
        versionsAreNoughtAtFirst();
        imagesAtMostTen();
        parentsAreEarlierImages();
        atMostFiveSteps();
        layersFromNought();
        likeThingsAreOneLayer();
        withoutStepsTheTopIsWhatItBeginsWith();
        parentMustHaveBeenBaked();
        bakesAtMostSixtyEver();
        bakesBeginInRingNoughtOnTheirDay();
        noBakeIsMadeForTheSameTop();
        aBakeIsMadeForAnEarlierTop();
        freshOnlyWithAFreshParent();
    }

    private static void usedForFiveHundredAndTwelveCalls() {
        Check.says(Document.TERMS, "An object is used for at most 512 calls after it has been made");
        Baker days = Check.made(Settings::oneBake);
        for (int call = days.calls(); call < 510; call++) {
            days.pass(30);
        }
        Check.due(60, days.state(0));
        Check.due(0, days.pass(30));
        Baker versions = new Baker();
        for (int version = 1; version <= 511; version++) {
            Check.due(version, versions.change(9, -1));
        }
        Check.due(510, versions.change(9, 510));
        Baker copies = new Baker();
        for (int call = 0; call < 509; call++) {
            copies.pass(30);
        }
        copies.add(-1);
        copies.bake(0);
        Check.due(15271, copies.copy(0, 2));
    }

    private static void freshIsToldInTwoWays() {
        Check.says(Document.TERMS, "what is fresh is told in two ways");
        Baker x = Check.made(Settings::mixed);
        for (int image = 0; image < 4; image++) {
            Check.due(true, x.isFresh(image));
            Check.due(true, x.isFreshAnew(image));
        }
        x.change(2, -1);
        boolean[] fresh = {true, false, false, true};
        for (int image = 0; image < 4; image++) {
            Check.due(fresh[image], x.isFresh(image));
            Check.due(fresh[image], x.isFreshAnew(image));
        }
    }

    private static void daysFromNought() {
        Check.says(Document.TERMS, "Days are numbered from 0.");
        Baker x = Check.made(Settings::oneBake);
        x.setRules(0, 0, 10, 20);
        x.setRules(1, 0, 10, 20);
        Check.due(0, x.copy(0, 0));
        x.pass(1);
        Check.due(1, x.copy(0, 1));
    }

    private static void inputsFromNoughtToNine() {
        Check.says(Document.TERMS, "Inputs are 0 to 9");
        for (int input = 0; input <= 9; input++) {
            Baker x = Check.made(Settings::oneImage);
            Check.due(1, x.step(0, input));
            x.bake(0);
            for (int other = 0; other <= 9; other++) {
                Check.due(1, x.change(other, -1));
                Check.due(other != input, x.isFresh(0));
                x.change(other, 0);
            }
        }
    }

    private static void versionsAreNoughtAtFirst() {
        Check.says(Document.TERMS, "each with a version, 0 at first");
        for (int input = 0; input <= 9; input++) {
            Baker x = Check.made(Settings::oneImage);
            x.step(0, input);
            x.bake(0);
            x.change(input, -1);
            Check.due(false, x.isFresh(0));
            Check.due(0, x.change(input, 0));
            Check.due(true, x.isFresh(0));
            Check.due(true, x.isFreshAnew(0));
        }
    }

    private static void imagesAtMostTen() {
        Check.says(Document.TERMS, "Images are numbered from 0 as they are added, at most 10");
        Baker x = new Baker();
        for (int image = 0; image < 10; image++) {
            Check.due(image, x.add(-1));
        }
        Check.due(Check.STATE, Check.answerOf(x, y -> y.add(-1)));
        Check.due(-1, x.latest(9));
        Check.due(Check.INDEX, Check.answerOf(x, y -> y.latest(10)));
    }

    private static void parentsAreEarlierImages() {
        Check.says(Document.TERMS, "an image has a parent, an earlier image, or none");
        Baker x = new Baker();
        Check.due(Check.INDEX, Check.answerOf(x, y -> y.add(0)));
        x.add(-1);
        Check.due(Check.INDEX, Check.answerOf(x, y -> y.add(1)));
        Check.due(1, x.add(0));
        Check.due(Check.STATE, Check.answerOf(x, y -> y.bake(1)));
        Check.due(2, x.add(-1));
        Check.due(0, x.bake(2));
    }

    private static void atMostFiveSteps() {
        Check.says(Document.TERMS, "at most 5 steps, none at first; each step has an input");
        Baker x = Check.made(Settings::oneImage);
        x.bake(0);
        Check.due(0, x.layers());
        for (int step = 1; step <= 5; step++) {
            Check.due(step, x.step(0, 10 - step));
        }
        Check.due(Check.STATE, Check.answerOf(x, y -> y.step(0, 0)));
        x.bake(0);
        Check.due(5, x.layers());
    }

    private static void layersFromNought() {
        Check.says(Document.TERMS, "Layers are numbered from 0 as they are made.");
        Baker x = Check.made(Settings::oneImage);
        x.step(0, 5);
        x.bake(0);
        Check.due(0, x.top(0));
        x.step(0, 5);
        x.step(0, 4);
        x.bake(0);
        Check.due(2, x.top(1));
        Check.due(3, x.layers());
    }

    private static void likeThingsAreOneLayer() {
        Check.says(Document.TERMS, "of like things there is never more than one layer");
        Baker x = Check.made(Settings::oneImage);
        x.step(0, 1);
        x.bake(0);
        x.add(-1);
        x.step(1, 1);
        x.bake(1);
        Check.due(0, x.top(1));
        Check.due(1, x.layers());
        x.step(1, 1);
        x.bake(1);
        Check.due(1, x.top(2));
        x.change(1, -1);
        x.bake(0);
        Check.due(2, x.top(3));
        x.add(0);
        x.step(2, 1);
        x.change(1, 0);
        x.bake(0);
        Check.due(0, x.top(4));
        x.bake(2);
        Check.due(1, x.top(5));
        Check.due(3, x.layers());
    }

    private static void withoutStepsTheTopIsWhatItBeginsWith() {
        Check.says(Document.TERMS, "without steps it is what it begins with (it may be none)");
        Baker x = Check.made(Settings::oneImage);
        x.add(0);
        x.bakeAll();
        Check.due(-1, x.top(0));
        Check.due(-1, x.top(1));
        Check.due(0, x.layers());
        x.step(0, 0);
        x.bakeAll();
        Check.due(0, x.top(2));
        Check.due(0, x.top(3));
        Check.due(1, x.layers());
    }

    private static void parentMustHaveBeenBaked() {
        Check.says(Document.TERMS, "An image with a parent can be baked only if the parent was baked.");
        Baker x = Check.made(Settings::oneImage);
        x.add(0);
        Check.due(Check.STATE, Check.answerOf(x, y -> y.bake(1)));
        x.bake(0);
        Check.due(1, x.bake(1));
        x.hold(0);
        x.pass(30);
        x.step(0, 0);
        x.step(1, 1);
        Check.due(2, x.bake(1));
        Check.due(0, x.top(2));
    }

    private static void bakesAtMostSixtyEver() {
        Check.says(Document.TERMS, "A bake is numbered from 0, as it is made, at most 60 ever");
        Baker x = Check.made(Settings::oneBake);
        for (int bake = 1; bake < 60; bake++) {
            x.change(0, -1);
            Check.due(bake, x.bake(0));
        }
        Check.due(60, x.bakes());
        Check.due(60, x.pass(30));
        x.change(0, -1);
        Check.due(Check.STATE, Check.answerOf(x, y -> y.bake(0)));
        Check.due(60, x.bakes());
    }

    private static void bakesBeginInRingNoughtOnTheirDay() {
        Check.says(Document.TERMS, "it has the image, the top, the day on which it was made, and the ring 0");
        Baker x = Check.made(Settings::oneBake);
        x.test(0, true);
        x.raise(0);
        x.pass(3);
        Settings.changeAndBake(x);
        Check.due(1, x.state(0));
        Check.due(0, x.state(1));
        x.pass(8);
        Check.due(21, x.state(0));
        Check.due(0, x.state(1));
        x.pass(3);
        Check.due(20, x.state(1));
    }

    private static void noBakeIsMadeForTheSameTop() {
        Check.says(Document.TERMS, "(the one with the greatest number, also if it is held or gone), no bake is made");
        Baker held = Check.made(Settings::heldBake);
        Check.due(0, held.bake(0));
        Check.due(0, held.bakeAll());
        Baker gone = Check.made(Settings::goneBake);
        Check.due(40 + 20, gone.state(0));
        Check.due(0, gone.bake(0));
        Check.due(0, gone.bakeAll());
        Check.due(1, gone.bakes());
        Baker none = Check.made(Settings::oneImage);
        Check.due(0, none.bake(0));
        Check.due(0, none.bake(0));
        Check.due(1, none.bakes());
        Baker allGone = Check.made(Settings::sixtyBakes);
        allGone.hold(59);
        Check.due(60, allGone.pass(30));
        Check.due(0, allGone.bakeAll());
        Check.due(59, allGone.bake(9));
    }

    private static void aBakeIsMadeForAnEarlierTop() {
        Check.says(Document.TERMS, "If the top is that of the latest bake of the image");
        Baker x = Check.made(Settings::oneBake);
        Settings.changeAndBake(x);
        x.change(0, 0);
        Check.due(2, x.bake(0));
        Check.due(0, x.top(2));
        Check.due(2, x.layers());
        Check.due(2, x.bake(0));
    }

    private static void freshOnlyWithAFreshParent() {
        Check.says(Document.TERMS, "An image is fresh, if it was baked, its parent is fresh, or it has none, and baking it would make no bake.");
        Baker x = Check.made(Settings::oneImage);
        x.add(0);
        freshAre(x, false, false);
        x.bake(0);
        freshAre(x, true, false);
        x.bake(1);
        freshAre(x, true, true);
        x.step(0, 0);
        freshAre(x, false, false);
        x.bake(0);
        freshAre(x, true, false);
        x.bake(1);
        freshAre(x, true, true);
        x.step(1, 1);
        freshAre(x, true, false);
    }

    private static void freshAre(Baker x, boolean parent, boolean child) {
        Check.due(parent, x.isFresh(0));
        Check.due(child, x.isFresh(1));
        Check.due(parent, x.isFreshAnew(0));
        Check.due(child, x.isFreshAnew(1));
    }

    // ---- promise 1

    private static void aNewObject() {
        Check.says(1, "Begins on day 0 without images.");
        Baker x = new Baker();
        Check.due(0, x.layers());
        Check.due(0, x.bakes());
        Check.due(0, x.old());
        Check.due(0, x.bakeAll());
        Check.due(0, x.pass(30));
        Check.due(Check.INDEX, Check.answerOf(x, y -> y.isFresh(0)));
        Check.due(Check.INDEX, Check.answerOf(x, y -> y.state(0)));
        Check.due(Check.INDEX, Check.answerOf(x, y -> y.runsFrom(0)));
        Check.due(Check.INDEX, Check.answerOf(x, y -> y.oldAt(0)));
        keepsNothingOfAnotherObject();
    }

    private static void keepsNothingOfAnotherObject() {
        Baker full = Check.made(Settings::sixtyBakesOutOfDate);
        Baker x = Check.made(Settings::oneBake);
        Check.due(60, full.bakes());
        Check.due(1, x.bakes());
        Check.due(1, x.change(0, -1));
        Check.due(1, x.copy(0, 0));
    }

    // ---- promise 2

    private static void add() {
        Check.says(2, "Adds an image without steps.");
        Baker x = Check.made(Settings::mixed);
        Check.due(4, x.add(0));
        Check.due(1, x.step(4, 0));
        Check.says(2, "Returns its number.");
        Check.due(5, x.add(-1));
        addParents();
        addNoMoreThanTen();
    }

    private static void addParents() {
        Check.says(2, "an earlier image, or -1 for none");
        Check.takenAtBothEnds(-1, 3, Settings::mixed, Baker::add);
        Check.says(2, "Throws `IndexOutOfBoundsException` if parent is neither -1 nor an image");
        Check.refusedOutside(-1, -1, Check.INDEX, Settings::nothing, Baker::add);
        Check.refusedOutside(-1, 0, Check.INDEX, Settings::oneImage, Baker::add);
        Check.refusedOutside(-1, 3, Check.INDEX, Settings::mixed, Baker::add);
        // Of both exceptions that are due then, this one is the first.
        Check.refusedOutside(-1, 9, Check.INDEX, Settings::tenImages, Baker::add);
    }

    private static void addNoMoreThanTen() {
        Check.says(2, "Throws `IllegalStateException` if there are 10 images");
        Baker x = new Baker();
        for (int image = 0; image < 9; image++) {
            x.add(-1);
        }
        Check.due(9, x.add(8));
        for (int i = -1; i <= 9; i++) {
            int parent = i;
            Check.refused(Check.STATE, Settings::tenImages, y -> y.add(parent));
        }
    }

    // ---- promise 3

    private static void step() {
        Check.says(3, "Adds a step to an image.");
        Baker x = Check.made(Settings::mixed);
        Check.due(true, x.isFresh(2));
        Check.due(1, x.step(2, 9));
        Check.due(false, x.isFresh(2));
        Check.says(3, "Returns how many steps it has then.");
        Check.due(2, x.step(2, 9));
        Check.due(3, x.step(0, 0));
        stepImages();
        stepInputs();
        stepNoMoreThanFive();
    }

    private static void stepImages() {
        Check.says(3, "Throws `IndexOutOfBoundsException` if there is no such image");
        Check.takenAtBothEnds(0, 3, Settings::mixed, (x, image) -> x.step(image, 0));
        Check.takenAtBothEnds(0, 9, Settings::tenImages, (x, image) -> x.step(image, 0));
        Check.refusedOutside(0, -1, Check.INDEX, Settings::nothing, (x, image) -> x.step(image, 0));
        Check.refusedOutside(0, 3, Check.INDEX, Settings::mixed, (x, image) -> x.step(image, 0));
        Check.refusedOutside(0, 9, Check.INDEX, Settings::tenImages, (x, image) -> x.step(image, 0));
        // Both arguments are wrong: of both exceptions this one is the first.
        Check.refusedOutside(0, 3, Check.INDEX, Settings::mixed, (x, image) -> x.step(image, 10));
        Check.refusedOutside(0, 0, Check.INDEX, ImageBoundaries::fiveSteps, (x, image) -> x.step(image, -1));
    }

    private static void stepInputs() {
        Check.says(3, "- `input`: 0 to 9");
        Check.takenAtBothEnds(0, 9, Settings::mixed, (x, input) -> x.step(3, input));
        Check.says(3, "Throws `IllegalArgumentException` if input is out of range");
        Check.refusedOutside(0, 9, Check.ARGUMENT, Settings::oneImage, (x, input) -> x.step(0, input));
        Check.refusedOutside(0, 9, Check.ARGUMENT, Settings::mixed, (x, input) -> x.step(3, input));
        // It has 5 steps, too: of both exceptions this one is the first.
        Check.refusedOutside(0, 9, Check.ARGUMENT, ImageBoundaries::fiveSteps, (x, input) -> x.step(0, input));
    }

    private static void fiveSteps(Baker x) {
        x.add(-1);
        for (int step = 0; step < 5; step++) {
            x.step(0, step);
        }
    }

    private static void stepNoMoreThanFive() {
        Check.says(3, "Throws `IllegalStateException` if it has 5");
        Baker x = new Baker();
        x.add(-1);
        x.add(-1);
        for (int step = 1; step <= 5; step++) {
            Check.due(step, x.step(0, 9));
        }
        Check.due(Check.STATE, Check.answerOf(x, y -> y.step(0, 9)));
        Check.due(1, x.step(1, 9));
        Check.refused(Check.STATE, ImageBoundaries::fiveSteps, y -> y.step(0, 0));
        Check.refused(Check.STATE, ImageBoundaries::fiveSteps, y -> y.step(0, 9));
    }

    // ---- promise 4

    private static void change() {
        Check.says(4, "Changes an input: its version becomes 1 greater, or an earlier one.");
        Baker x = Check.made(Settings::oneBake);
        Check.due(1, x.change(0, -1));
        Check.due(false, x.isFresh(0));
        Check.due(0, x.change(0, 0));
        Check.due(true, x.isFresh(0));
        Check.says(4, "Returns the version then; a new one is 1 greater than any before.");
        Check.due(2, x.change(0, -1));
        Check.due(1, x.change(0, 1));
        Check.due(0, x.change(0, 0));
        Check.due(3, x.change(0, -1));
        changeInputs();
        changeVersions();
    }

    private static void changeInputs() {
        Check.says(4, "- `input`: 0 to 9");
        Check.takenAtBothEnds(0, 9, Settings::mixed, (x, input) -> x.change(input, -1));
        Check.says(4, "Throws `IllegalArgumentException` if input is out of range");
        Check.refusedOutside(0, 9, Check.ARGUMENT, Settings::nothing, (x, input) -> x.change(input, -1));
        Check.refusedOutside(0, 9, Check.ARGUMENT, Settings::mixed, (x, input) -> x.change(input, -1));
        Check.refusedOutside(0, 9, Check.ARGUMENT, Settings::mixed, (x, input) -> x.change(input, 0));
        Check.refusedOutside(0, 9, Check.ARGUMENT, Settings::mixed, (x, input) -> x.change(input, -2));
    }

    private static void changeVersions() {
        Check.says(4, "a version below the greatest one so far, or -1 for a new one");
        Check.takenAtBothEnds(-1, 1, Settings::mixed, (x, version) -> x.change(9, version));
        Check.takenAtBothEnds(-1, 1, Settings::mixed, (x, version) -> x.change(0, version));
        Check.says(4, "or version is neither -1 nor from 0 to less than the greatest one so far");
        Check.refusedOutside(-1, -1, Check.ARGUMENT, Settings::nothing, (x, version) -> x.change(0, version));
        Check.refusedOutside(-1, -1, Check.ARGUMENT, Settings::mixed, (x, version) -> x.change(2, version));
        Check.refusedOutside(-1, 1, Check.ARGUMENT, Settings::mixed, (x, version) -> x.change(0, version));
        // The greatest one so far counts, not the one that it is now: that is 0.
        Check.refusedOutside(-1, 1, Check.ARGUMENT, Settings::mixed, (x, version) -> x.change(9, version));
    }

    // ---- promise 5

    private static void bake() {
        Check.says(5, "Bakes an image.");
        Baker x = Check.made(Settings::mixed);
        x.change(9, 1);
        Check.due(7, x.bake(3));
        Check.says(5, "Returns its latest bake then.");
        Check.due(7, x.bake(3));
        Check.due(4, x.bake(0));
        bakeImages();
        bakeWithoutParents();
        bakeNoMoreThanSixty();
    }

    private static void bakeImages() {
        Check.says(5, "Throws `IndexOutOfBoundsException` if there is no such image");
        Check.takenAtBothEnds(0, 3, Settings::mixed, Baker::bake);
        Check.refusedOutside(0, -1, Check.INDEX, Settings::nothing, Baker::bake);
        Check.refusedOutside(0, 3, Check.INDEX, Settings::mixed, Baker::bake);
        // There were 60 bakes, too: of both exceptions this one is the first.
        Check.refusedOutside(0, 9, Check.INDEX, Settings::sixtyBakesOutOfDate, Baker::bake);
    }

    private static void bakeWithoutParents() {
        Check.says(5, "Throws `IllegalStateException` if its parent was not baked");
        Baker x = Check.made(Settings::tenImages);
        for (int image = 0; image < 10; image++) {
            int child = image + 1;
            Check.due(child == 10 ? Check.INDEX : Check.STATE, Check.answerOf(x, y -> y.bake(child)));
            Check.due(image, x.bake(image));
        }
        Check.refused(Check.STATE, Settings::tenImages, y -> y.bake(1));
        Check.refused(Check.STATE, Settings::tenImages, y -> y.bake(9));
        Check.refused(Check.STATE, ImageBoundaries::grandparentBaked, y -> y.bake(2));
    }

    private static void grandparentBaked(Baker x) {
        Settings.tenImages(x);
        x.bake(0);
    }

    private static void bakeNoMoreThanSixty() {
        Check.says(5, "or a bake would be made and there were 60");
        Baker x = Check.made(Settings::fiftyNineBakes);
        Check.due(59, x.bake(1));
        Check.due(59, x.bake(1));
        Check.due(58, x.bake(0));
        Baker full = Check.made(Settings::sixtyBakes);
        for (int image = 0; image < 10; image++) {
            Check.due(50 + image, full.bake(image));
        }
        Check.refused(Check.STATE, Settings::sixtyBakesOutOfDate, y -> y.bake(0));
        Check.refused(Check.STATE, ImageBoundaries::sixtyBakesAndAStepMore, y -> y.bake(9));
        Check.refused(Check.STATE, ImageBoundaries::sixtyBakesAndANewImage, y -> y.bake(2));
    }

    private static void sixtyBakesAndAStepMore(Baker x) {
        Settings.sixtyBakes(x);
        x.step(9, 8);
    }

    private static void sixtyBakesAndANewImage(Baker x) {
        Settings.fiftyNineBakes(x);
        x.bake(1);
        x.add(-1);
    }

    // ---- promise 6

    private static void bakeAll() {
        bakeAllInLine();
        Check.says(6, "Returns how many bakes are made.");
        Check.due(0, new Baker().bakeAll());
        Check.due(10, Check.made(Settings::tenImages).bakeAll());
        Check.due(0, Check.made(Settings::sixtyBakes).bakeAll());
        Check.due(0, Check.made(Settings::mixed).bakeAll());
        bakeAllNoMoreThanSixty();
    }

    private static void bakeAllInLine() {
        Check.says(6, "those without a parent wait in a line, by their numbers");
        Baker x = new Baker();
        int[] parents = {-1, 0, 1, -1, 3, 0, 4, 2, 3, -1};
        for (int parent : parents) {
            x.add(parent);
        }
        Check.due(10, x.bakeAll());
        int[] line = {0, 3, 9, 1, 5, 4, 8, 2, 6, 7};
        for (int place = 0; place < line.length; place++) {
            Check.due(place, x.latest(line[place]));
        }
        Check.says(6, "Bakes all images that are not fresh when their turn comes");
        x.step(1, 0);
        x.step(3, 0);
        Check.due(7, x.bakeAll());
        int[] baked = {3, 1, 4, 8, 2, 6, 7};
        for (int place = 0; place < baked.length; place++) {
            Check.due(10 + place, x.latest(baked[place]));
        }
        bakeAllSkipsWhatBecameFresh();
    }

    /** The child is not fresh at first, but when its turn comes: its parent is then baked with its earlier top. */
    private static void bakeAllSkipsWhatBecameFresh() {
        Baker x = Check.made(Settings::oneBake);
        x.add(0);
        x.bake(1);
        x.change(0, -1);
        x.bake(0);
        x.change(0, 0);
        Check.due(false, x.isFresh(1));
        Check.due(1, x.bakeAll());
        Check.due(3, x.latest(0));
        Check.due(1, x.latest(1));
        Check.due(true, x.isFresh(1));
    }

    private static void bakeAllNoMoreThanSixty() {
        Check.says(6, "Throws `IllegalStateException` if there would be more than 60");
        Check.due(1, Check.made(Settings::fiftyNineBakes).bakeAll());
        Check.refused(Check.STATE, Settings::sixtyBakesOutOfDate, Baker::bakeAll);
        Check.refused(Check.STATE, ImageBoundaries::fiftyNineBakesAndTwoToCome, Baker::bakeAll);
        Check.refused(Check.STATE, ImageBoundaries::sixtyBakesAndAStepMore, Baker::bakeAll);
        Check.refused(Check.STATE, ImageBoundaries::sixtyBakesAndANewImage, Baker::bakeAll);
        Baker exactly = Check.made(ImageBoundaries::fiftyBakes);
        Check.due(10, exactly.bakeAll());
        Check.due(60, exactly.bakes());
        Check.refused(Check.STATE, ImageBoundaries::fiftyOneBakes, Baker::bakeAll);
    }

    private static void fiftyNineBakesAndTwoToCome(Baker x) {
        Settings.fiftyNineBakes(x);
        x.change(0, -1);
    }

    /** All ten images are out of date. */
    private static void fiftyBakes(Baker x) {
        Settings.tenImages(x);
        for (int i = 0; i < 5; i++) {
            x.bakeAll();
            x.change(0, -1);
        }
    }

    private static void fiftyOneBakes(Baker x) {
        fiftyBakes(x);
        x.bake(0);
        x.change(0, -1);
    }

    // ---- promises 7 and 8

    private static void fresh() {
        Check.says(7, "Tells whether an image is fresh.");
        Baker x = Check.made(Settings::oneBake);
        Check.due(true, x.isFresh(0));
        x.change(0, -1);
        Check.due(false, x.isFresh(0));
        Check.says(7, "Throws `IndexOutOfBoundsException` if there is no such image");
        Check.takenAtBothEnds(0, 9, Settings::tenImages, Baker::isFresh);
        Check.refusedOutside(0, -1, Check.INDEX, Settings::nothing, Baker::isFresh);
        Check.refusedOutside(0, 3, Check.INDEX, Settings::mixed, Baker::isFresh);
        Check.refusedOutside(0, 9, Check.INDEX, Settings::tenImages, Baker::isFresh);
        Check.says(8, "Throws `IndexOutOfBoundsException` if there is no such image");
        Check.takenAtBothEnds(0, 9, Settings::tenImages, Baker::isFreshAnew);
        Check.refusedOutside(0, -1, Check.INDEX, Settings::nothing, Baker::isFreshAnew);
        Check.refusedOutside(0, 3, Check.INDEX, Settings::mixed, Baker::isFreshAnew);
        Check.refusedOutside(0, 9, Check.INDEX, Settings::tenImages, Baker::isFreshAnew);
        freshAnewInputByInput();
        freshAnewWithTheMostLayers();
    }

    private static void freshAnewInputByInput() {
        Check.says(8, "input by input and version by version from the lowest layer on");
        Baker x = Check.made(Settings::oneBake);
        Check.due(true, x.isFreshAnew(0));
        x.step(0, 0);
        Check.due(false, x.isFreshAnew(0));
        x.bake(0);
        x.change(0, -1);
        Check.due(false, x.isFreshAnew(0));
        x.change(0, 0);
        Check.due(true, x.isFreshAnew(0));
        Check.says(8, "and likewise for its parent, if it has one");
        Baker moved = Check.made(Settings::oneImage);
        moved.add(0);
        moved.step(1, 3);
        moved.bakeAll();
        moved.step(0, 3);
        Check.due(false, moved.isFreshAnew(0));
        Check.due(false, moved.isFreshAnew(1));
        Baker none = Check.made(Settings::oneImage);
        Check.due(false, none.isFreshAnew(0));
        none.bake(0);
        Check.due(true, none.isFreshAnew(0));
        freshAnewWhateverWasAskedBefore();
    }

    /** Image 1 was made of nothing and would take the steps 0, 1, 2 now; image 2, which is asked before, was made of 1, 2. */
    private static void freshAnewWhateverWasAskedBefore() {
        Check.says(8, "against what all steps of its forefathers and its own would take now");
        Baker x = Check.made(Settings::oneImage);
        x.add(0);
        x.add(-1);
        x.bakeAll();
        x.step(0, 0);
        for (int input = 1; input <= 2; input++) {
            x.step(1, input);
            x.step(2, input);
        }
        x.bake(0);
        x.bake(2);
        Check.due(true, x.isFreshAnew(0));
        Check.due(true, x.isFreshAnew(2));
        Check.due(false, x.isFreshAnew(1));
    }

    private static void freshAnewWithTheMostLayers() {
        Check.says(8, "against what all steps of its forefathers and its own would take now");
        Baker x = Check.made(ImageBoundaries::fiftyLayersHigh);
        Check.due(10, x.bakeAll());
        Check.due(50, x.layers());
        Check.due(49, x.top(9));
        for (int input = 0; input < 10; input++) {
            // The first image that has a step with the input.
            int first = input / 5;
            x.change(input, -1);
            Check.due(first != 0, x.isFreshAnew(0));
            Check.due(false, x.isFreshAnew(first));
            Check.due(false, x.isFreshAnew(9));
            x.change(input, 0);
            Check.due(true, x.isFreshAnew(9));
        }
    }

    private static void fiftyLayersHigh(Baker x) {
        for (int image = 0; image < 10; image++) {
            x.add(image - 1);
            for (int step = 0; step < 5; step++) {
                x.step(image, image % 2 * 5 + step);
            }
        }
    }

    // ---- promises 9 and 10

    private static void counts() {
        Check.says(9, "Returns how many layers were made.");
        Check.due(0, Check.made(Settings::oneImage).layers());
        Check.due(1, Check.made(Settings::oneBake).layers());
        Check.due(6, Check.made(Settings::sixtyBakes).layers());
        Baker most = Check.made(ImageBoundaries::fiveSteps);
        for (int i = 0; i < 60; i++) {
            most.change(0, -1);
            most.bake(0);
        }
        Check.due(300, most.layers());
        Check.due(299, most.top(59));
        Check.says(10, "Returns how many bakes were made.");
        Check.due(0, Check.made(Settings::oneImage).bakes());
        Check.due(1, Check.made(Settings::goneBake).bakes());
        Check.due(59, Check.made(Settings::fiftyNineBakes).bakes());
        Check.due(60, Check.made(Settings::sixtyBakes).bakes());
    }

    // ---- promises 11 and 12

    private static void latestAndTop() {
        Check.says(11, "Returns the latest bake of an image, -1 if there is none.");
        Check.due(-1, Check.made(Settings::oneImage).latest(0));
        Check.due(0, Check.made(Settings::oneBake).latest(0));
        Check.due(0, Check.made(Settings::heldBake).latest(0));
        Check.due(0, Check.made(Settings::goneBake).latest(0));
        Check.due(59, Check.made(Settings::sixtyBakes).latest(9));
        Check.says(11, "Throws `IndexOutOfBoundsException` if there is no such image");
        Check.takenAtBothEnds(0, 9, Settings::tenImages, Baker::latest);
        Check.refusedOutside(0, -1, Check.INDEX, Settings::nothing, Baker::latest);
        Check.refusedOutside(0, 3, Check.INDEX, Settings::mixed, Baker::latest);
        Check.refusedOutside(0, 9, Check.INDEX, Settings::tenImages, Baker::latest);
        Check.says(12, "Returns the top of a bake, -1 if it is none.");
        Baker none = Check.made(Settings::oneImage);
        none.bake(0);
        Check.due(-1, none.top(0));
        Check.due(0, Check.made(Settings::oneBake).top(0));
        Check.due(0, Check.made(Settings::goneBake).top(0));
        Check.says(12, "Throws `IndexOutOfBoundsException` if there never was such a bake");
        Check.takenAtBothEnds(0, 59, Settings::sixtyBakes, Baker::top);
        Check.refusedOutside(0, -1, Check.INDEX, Settings::oneImage, Baker::top);
        Check.refusedOutside(0, 6, Check.INDEX, Settings::mixed, Baker::top);
        Check.refusedOutside(0, 59, Check.INDEX, Settings::sixtyBakes, Baker::top);
    }
}
