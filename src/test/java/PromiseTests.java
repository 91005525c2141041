/** For each promise of the document its ordinary inputs, the edges that the document names, and wrong inputs. */
public final class PromiseTests {
    private static final Class<?> INDEX = IndexOutOfBoundsException.class;
    private static final Class<?> ARGUMENT = IllegalArgumentException.class;
    private static final Class<?> STATE = IllegalStateException.class;

    private static int wrong = 0;
    private static int promise = 0;
    private static ImageBaker x;

    private interface Call {
        Object answer();
    }

    public static void main(String[] args) {
        aNewObject();
        addsImages();
        addsSteps();
        changesInputs();
        bakesOneImage();
        bakesAllImages();
        bakesAllOnlyIfThereIsRoom();
        tellsWhatIsFresh();
        tellsTheSameAnew();
        countsLayers();
        countsBakes();
        tellsTheLatestBake();
        tellsTheTop();
        testsBakes();
        holdsBakes();
        raisesBakes();
        copiesBakes();
        setsRules();
        letsDaysGoBy();
        tellsTheState();
        startsMachines();
        startsFromTheSixtiethBake();
        startsNoMoreThanThirtyMachines();
        renewsMachines();
        stopsMachines();
        tellsWhatMachinesRunFrom();
        countsOldMachines();
        ordersOldMachines();
        if (wrong > 0) {
            System.out.println(wrong + " answers are wrong");
            System.exit(1);
        }
        System.out.println("all promises hold");
    }

    private static void begin(int number) {
        promise = number;
        x = new ImageBaker();
    }

    private static void due(Object want, Object got) {
        if (!want.equals(got)) {
            wrong++;
            int line = new Throwable().getStackTrace()[1].getLineNumber();
            System.out.println("promise " + promise + ", line " + line + ": answered " + got + ", due is " + want);
        }
    }

    /** What the call throws, by its class, or what it answers. */
    private static Object thrownBy(Call call) {
        try {
            return call.answer();
        } catch (RuntimeException e) {
            return e.getClass();
        }
    }

    private static Object setRules(int place, int delay, int start, int keep) {
        return thrownBy(() -> {
            x.setRules(place, delay, start, keep);
            return "set";
        });
    }

    /** One image with one step of the input 0, baked and at the place 0 from today on. */
    private static void beginWithBakeAtPlace(int number) {
        begin(number);
        x.add(-1);
        x.step(0, 0);
        x.bake(0);
        x.setRules(0, 0, 10, 20);
        x.copy(0, 0);
    }

    private static void changeAndBake() {
        x.change(0, -1);
        x.bake(0);
    }

    private static void aNewObject() {
        begin(1);
        due(0, x.layers());
        due(0, x.bakes());
        due(0, x.old());
        due(0, x.bakeAll());
        due(INDEX, thrownBy(() -> x.latest(0)));
        due(INDEX, thrownBy(() -> x.top(0)));
        due(INDEX, thrownBy(() -> x.runsFrom(0)));
        x.add(-1);
        x.bake(0);
        due(1, x.copy(0, 0));
        due(1, x.copy(0, 1));
        due(1, x.copy(0, 2));
        x.pass(10);
        due(0, x.state(0));
        x.pass(1);
        due(20, x.state(0));
        due(0, x.pass(9));
        due(1, x.pass(1));
    }

    private static void addsImages() {
        begin(2);
        due(INDEX, thrownBy(() -> x.add(0)));
        due(INDEX, thrownBy(() -> x.add(-2)));
        due(INDEX, thrownBy(() -> x.add(Integer.MIN_VALUE)));
        due(0, x.add(-1));
        due(INDEX, thrownBy(() -> x.add(1)));
        due(1, x.add(0));
        due(2, x.add(0));
        due(3, x.add(-1));
        for (int i = 4; i < 10; i++) {
            due(i, x.add(i - 1));
        }
        due(STATE, thrownBy(() -> x.add(-1)));
        due(STATE, thrownBy(() -> x.add(9)));
        due(INDEX, thrownBy(() -> x.add(10)));
        due(INDEX, thrownBy(() -> x.add(Integer.MAX_VALUE)));
        due(10, x.bakeAll());
        due(0, x.layers());
        due(1, x.step(9, 0));
    }

    private static void addsSteps() {
        begin(3);
        due(INDEX, thrownBy(() -> x.step(0, 0)));
        x.add(-1);
        due(INDEX, thrownBy(() -> x.step(1, 0)));
        due(INDEX, thrownBy(() -> x.step(-1, 0)));
        due(INDEX, thrownBy(() -> x.step(10, 10)));
        due(ARGUMENT, thrownBy(() -> x.step(0, 10)));
        due(ARGUMENT, thrownBy(() -> x.step(0, -1)));
        due(1, x.step(0, 9));
        due(2, x.step(0, 0));
        due(3, x.step(0, 0));
        due(4, x.step(0, 5));
        due(5, x.step(0, 9));
        due(STATE, thrownBy(() -> x.step(0, 0)));
        due(ARGUMENT, thrownBy(() -> x.step(0, 10)));
        due(INDEX, thrownBy(() -> x.step(1, 10)));
        x.bake(0);
        due(5, x.layers());
        due(4, x.top(0));
        x.add(-1);
        x.step(1, 9);
        x.step(1, 0);
        x.bake(1);
        due(5, x.layers());
        due(1, x.top(1));
    }

    private static void changesInputs() {
        begin(4);
        due(ARGUMENT, thrownBy(() -> x.change(-1, -1)));
        due(ARGUMENT, thrownBy(() -> x.change(10, -1)));
        due(ARGUMENT, thrownBy(() -> x.change(0, 0)));
        due(ARGUMENT, thrownBy(() -> x.change(0, -2)));
        due(ARGUMENT, thrownBy(() -> x.change(0, Integer.MAX_VALUE)));
        due(ARGUMENT, thrownBy(() -> x.change(0, Integer.MIN_VALUE)));
        due(1, x.change(9, -1));
        due(ARGUMENT, thrownBy(() -> x.change(0, 0)));
        due(0, x.change(9, 0));
        due(ARGUMENT, thrownBy(() -> x.change(9, 1)));
        due(2, x.change(9, -1));
        due(3, x.change(9, -1));
        due(1, x.change(9, 1));
        due(2, x.change(9, 2));
        due(ARGUMENT, thrownBy(() -> x.change(9, 3)));
        due(0, x.change(9, 0));
        due(4, x.change(9, -1));
        due(3, x.change(9, 3));
        due(1, x.change(0, -1));
        x.add(-1);
        x.step(0, 9);
        x.bake(0);
        due(ARGUMENT, thrownBy(() -> x.change(9, 4)));
        due(true, x.isFresh(0));
        x.change(9, 2);
        due(false, x.isFresh(0));
        x.change(9, 3);
        due(true, x.isFresh(0));
    }

    private static void bakesOneImage() {
        begin(5);
        due(INDEX, thrownBy(() -> x.bake(0)));
        due(INDEX, thrownBy(() -> x.bake(-1)));
        x.add(-1);
        x.add(0);
        due(STATE, thrownBy(() -> x.bake(1)));
        due(0, x.bake(0));
        due(0, x.bake(0));
        due(-1, x.top(0));
        due(1, x.bake(1));
        x.step(1, 4);
        due(2, x.bake(1));
        due(0, x.top(2));
        x.step(0, 3);
        due(2, x.bake(1));
        due(3, x.bake(0));
        due(4, x.bake(1));
        due(2, x.top(4));
        x.hold(4);
        due(4, x.bake(1));
        due(5, x.bakes());
        due(3, x.layers());
        due(0, x.state(3));
        bakesNoMoreThanSixty();
    }

    private static void bakesNoMoreThanSixty() {
        begin(5);
        x.add(-1);
        x.step(0, 0);
        x.add(0);
        x.step(1, 1);
        x.add(-1);
        for (int i = 0; i < 60; i++) {
            due(i, x.bake(0));
            x.change(0, -1);
        }
        due(STATE, thrownBy(() -> x.bake(0)));
        due(STATE, thrownBy(() -> x.bake(1)));
        due(STATE, thrownBy(() -> x.bake(2)));
        due(INDEX, thrownBy(() -> x.bake(3)));
        due(60, x.bakes());
        due(60, x.layers());
        due(59, x.latest(0));
        x.change(0, 59);
        due(59, x.bake(0));
        due(59, x.top(59));
    }

    private static void bakesAllImages() {
        begin(6);
        x.add(-1);
        x.add(0);
        x.add(1);
        x.add(-1);
        x.add(0);
        x.add(3);
        for (int image = 0; image < 6; image++) {
            x.step(image, image);
        }
        due(6, x.bakeAll());
        int[] byLine = {0, 3, 1, 4, 5, 2};
        for (int i = 0; i < byLine.length; i++) {
            due(i, x.latest(byLine[i]));
            due(i, x.top(i));
        }
        due(0, x.bakeAll());
        due(6, x.bakes());
        x.change(1, -1);
        due(2, x.bakeAll());
        due(6, x.latest(1));
        due(7, x.latest(2));
        x.step(0, 9);
        x.bake(0);
        due(3, x.bakeAll());
        due(9, x.latest(1));
        due(10, x.latest(4));
        due(11, x.latest(2));
        due(1, x.latest(3));
    }

    private static void bakesAllOnlyIfThereIsRoom() {
        begin(6);
        x.add(-1);
        x.step(0, 0);
        x.add(0);
        for (int i = 0; i < 29; i++) {
            due(2, x.bakeAll());
            x.change(0, -1);
        }
        x.bake(0);
        due(59, x.bakes());
        x.add(-1);
        due(STATE, thrownBy(() -> x.bakeAll()));
        due(59, x.bakes());
        due(30, x.layers());
        due(57, x.latest(1));
        due(-1, x.latest(2));
        x.bake(2);
        due(STATE, thrownBy(() -> x.bakeAll()));
        due(60, x.bakes());
        x.change(0, -1);
        due(STATE, thrownBy(() -> x.bakeAll()));
        due(30, x.layers());
        x.change(0, 29);
        due(STATE, thrownBy(() -> x.bakeAll()));
        due(false, x.isFresh(1));
        begin(6);
        for (int i = 0; i < 10; i++) {
            x.add(i - 1);
        }
        x.step(0, 0);
        for (int i = 0; i < 6; i++) {
            due(10, x.bakeAll());
            x.change(0, -1);
        }
        due(STATE, thrownBy(() -> x.bakeAll()));
        x.change(0, 5);
        due(0, x.bakeAll());
        due(60, x.bakes());
    }

    private static void tellsWhatIsFresh() {
        begin(7);
        due(INDEX, thrownBy(() -> x.isFresh(0)));
        x.add(-1);
        x.add(0);
        x.add(1);
        due(INDEX, thrownBy(() -> x.isFresh(3)));
        due(INDEX, thrownBy(() -> x.isFresh(-1)));
        freshAndAnewAre(false, false, false);
        x.bake(0);
        freshAndAnewAre(true, false, false);
        x.bakeAll();
        freshAndAnewAre(true, true, true);
        x.step(1, 7);
        freshAndAnewAre(true, false, false);
        x.bake(2);
        freshAndAnewAre(true, false, false);
        x.bake(1);
        freshAndAnewAre(true, true, false);
        x.bake(2);
        freshAndAnewAre(true, true, true);
        x.step(0, 7);
        freshAndAnewAre(false, false, false);
        x.bake(0);
        freshAndAnewAre(true, false, false);
        x.bakeAll();
        x.change(7, -1);
        freshAndAnewAre(false, false, false);
        x.change(7, 0);
        freshAndAnewAre(true, true, true);
        x.change(6, -1);
        freshAndAnewAre(true, true, true);
        x.hold(x.latest(0));
        x.pass(30);
        due(70, x.state(x.latest(0)));
        freshAndAnewAre(true, true, true);
        due(2, x.layers());
    }

    private static void freshAndAnewAre(boolean first, boolean second, boolean third) {
        int layers = x.layers();
        due(first, x.isFresh(0));
        due(second, x.isFresh(1));
        due(third, x.isFresh(2));
        due(first, x.isFreshAnew(0));
        due(second, x.isFreshAnew(1));
        due(third, x.isFreshAnew(2));
        due(layers, x.layers());
    }

    private static void tellsTheSameAnew() {
        begin(8);
        due(INDEX, thrownBy(() -> x.isFreshAnew(0)));
        x.add(-1);
        due(INDEX, thrownBy(() -> x.isFreshAnew(1)));
        due(INDEX, thrownBy(() -> x.isFreshAnew(-1)));
        for (int image = 1; image < 10; image++) {
            x.add(image - 1);
        }
        for (int image = 0; image < 10; image++) {
            for (int step = 0; step < 5; step++) {
                x.step(image, (image + step) % 10);
            }
        }
        due(10, x.bakeAll());
        due(50, x.layers());
        due(true, x.isFreshAnew(9));
        x.change(0, -1);
        due(false, x.isFreshAnew(9));
        due(false, x.isFreshAnew(0));
        x.bake(0);
        due(true, x.isFreshAnew(0));
        due(false, x.isFreshAnew(1));
        x.change(0, 0);
        due(false, x.isFreshAnew(9));
        x.bake(0);
        due(true, x.isFreshAnew(9));
        x.change(5, -1);
        due(true, x.isFreshAnew(0));
        due(false, x.isFreshAnew(1));
        movesAStepFromParentToChild();
    }

    /** The image's layers are as due, but its parent's are not: so neither of both is fresh. */
    private static void movesAStepFromParentToChild() {
        begin(8);
        x.add(-1);
        x.add(0);
        x.step(1, 3);
        x.bakeAll();
        x.step(0, 3);
        due(false, x.isFreshAnew(0));
        due(false, x.isFreshAnew(1));
        due(false, x.isFresh(1));
    }

    private static void countsLayers() {
        begin(9);
        x.add(-1);
        x.add(-1);
        x.step(0, 1);
        x.step(0, 2);
        x.step(1, 1);
        x.step(1, 3);
        due(0, x.layers());
        x.bake(0);
        due(2, x.layers());
        x.bake(1);
        due(3, x.layers());
        x.change(2, -1);
        x.change(3, -1);
        due(3, x.layers());
        x.bakeAll();
        due(5, x.layers());
        x.change(2, 0);
        x.bakeAll();
        due(5, x.layers());
        x.change(1, -1);
        x.bakeAll();
        due(8, x.layers());
        makesThreeHundredLayers();
    }

    private static void makesThreeHundredLayers() {
        begin(9);
        x.add(-1);
        for (int step = 0; step < 5; step++) {
            x.step(0, 0);
        }
        for (int i = 0; i < 60; i++) {
            x.bake(0);
            due(5 * i + 5, x.layers());
            due(5 * i + 4, x.top(i));
            x.change(0, -1);
        }
        due(STATE, thrownBy(() -> x.bake(0)));
        due(300, x.layers());
        due(false, x.isFreshAnew(0));
        x.change(0, 59);
        due(true, x.isFreshAnew(0));
    }

    private static void countsBakes() {
        begin(10);
        x.add(-1);
        x.add(-1);
        due(0, x.bakes());
        x.bake(1);
        due(1, x.bakes());
        x.bake(1);
        due(1, x.bakes());
        x.bakeAll();
        due(2, x.bakes());
        due(2, x.pass(30));
        due(2, x.bakes());
    }

    private static void tellsTheLatestBake() {
        begin(11);
        due(INDEX, thrownBy(() -> x.latest(0)));
        x.add(-1);
        x.add(-1);
        due(INDEX, thrownBy(() -> x.latest(2)));
        due(INDEX, thrownBy(() -> x.latest(-1)));
        due(-1, x.latest(0));
        x.step(1, 0);
        x.bake(1);
        due(-1, x.latest(0));
        due(0, x.latest(1));
        x.bake(0);
        due(1, x.latest(0));
        x.change(0, -1);
        due(0, x.latest(1));
        x.bake(1);
        x.hold(2);
        x.pass(30);
        due(70, x.state(2));
        due(2, x.latest(1));
        due(1, x.latest(0));
    }

    private static void tellsTheTop() {
        begin(12);
        due(INDEX, thrownBy(() -> x.top(0)));
        x.add(-1);
        x.add(0);
        x.step(1, 2);
        x.step(1, 2);
        x.bakeAll();
        due(-1, x.top(0));
        due(1, x.top(1));
        due(INDEX, thrownBy(() -> x.top(2)));
        due(INDEX, thrownBy(() -> x.top(-1)));
        due(INDEX, thrownBy(() -> x.top(60)));
        x.step(0, 2);
        x.bakeAll();
        due(0, x.top(2));
        due(2, x.top(3));
        x.pass(30);
        due(1, x.top(1));
    }

    private static void testsBakes() {
        begin(13);
        due(INDEX, thrownBy(() -> x.test(0, true)));
        x.add(-1);
        x.step(0, 0);
        x.bake(0);
        changeAndBake();
        changeAndBake();
        due(INDEX, thrownBy(() -> x.test(3, true)));
        due(INDEX, thrownBy(() -> x.test(-1, false)));
        due(false, x.test(0, true));
        due(0, x.state(0));
        due(true, x.test(0, false));
        due(10, x.state(0));
        due(true, x.test(0, true));
        due(10, x.state(0));
        due(STATE, thrownBy(() -> x.raise(0)));
        x.hold(1);
        due(true, x.test(1, true));
        due(true, x.test(1, false));
        due(3, x.pass(21));
        due(STATE, thrownBy(() -> x.test(2, true)));
        due(STATE, thrownBy(() -> x.test(2, false)));
        due(60, x.state(2));
    }

    private static void holdsBakes() {
        beginWithBakeAtPlace(14);
        due(INDEX, thrownBy(() -> x.hold(1)));
        due(INDEX, thrownBy(() -> x.hold(-1)));
        x.start(0, 0, 0);
        x.start(0, 0, 0);
        x.start(0, 0, 0);
        x.stop(1);
        changeAndBake();
        due(2, x.hold(0));
        due(10, x.state(0));
        due(STATE, thrownBy(() -> x.hold(0)));
        due(0, x.runsFrom(0));
        due(0, x.hold(1));
        changeAndBake();
        x.test(2, false);
        due(STATE, thrownBy(() -> x.hold(2)));
        changeAndBake();
        x.pass(21);
        due(60, x.state(3));
        due(STATE, thrownBy(() -> x.hold(3)));
        due(60, x.state(3));
        due(30, x.state(0));
    }

    private static void raisesBakes() {
        begin(15);
        due(INDEX, thrownBy(() -> x.raise(0)));
        x.add(-1);
        x.step(0, 0);
        x.bake(0);
        due(INDEX, thrownBy(() -> x.raise(1)));
        due(INDEX, thrownBy(() -> x.raise(-1)));
        due(STATE, thrownBy(() -> x.raise(0)));
        x.test(0, true);
        x.test(0, true);
        due(1, x.raise(0));
        due(STATE, thrownBy(() -> x.raise(0)));
        x.test(0, true);
        due(2, x.raise(0));
        x.test(0, true);
        due(STATE, thrownBy(() -> x.raise(0)));
        due(2, x.state(0));
        changeAndBake();
        due(STATE, thrownBy(() -> x.raise(1)));
        x.test(1, true);
        x.hold(1);
        due(STATE, thrownBy(() -> x.raise(1)));
        due(10, x.state(1));
        changeAndBake();
        x.test(2, true);
        x.pass(11);
        due(1, x.raise(2));
        x.test(2, true);
        x.pass(10);
        due(STATE, thrownBy(() -> x.raise(2)));
        due(61, x.state(2));
    }

    private static void copiesBakes() {
        begin(16);
        due(INDEX, thrownBy(() -> x.copy(0, 0)));
        x.add(-1);
        x.step(0, 0);
        x.bake(0);
        due(INDEX, thrownBy(() -> x.copy(1, 3)));
        due(INDEX, thrownBy(() -> x.copy(-1, 0)));
        due(ARGUMENT, thrownBy(() -> x.copy(0, 3)));
        due(ARGUMENT, thrownBy(() -> x.copy(0, -1)));
        x.setRules(2, 9, 99, 99);
        x.setRules(1, 0, 99, 99);
        due(1, x.copy(0, 0));
        due(STATE, thrownBy(() -> x.copy(0, 0)));
        due(ARGUMENT, thrownBy(() -> x.copy(0, 3)));
        due(0, x.copy(0, 1));
        x.pass(4);
        due(13, x.copy(0, 2));
        due(STATE, thrownBy(() -> x.copy(0, 1)));
        changeAndBake();
        x.hold(1);
        due(5, x.copy(1, 0));
        delayIsThatOfTheDayOfTheCopy();
        copiesNoGoneBake();
    }

    private static void delayIsThatOfTheDayOfTheCopy() {
        begin(16);
        x.add(-1);
        x.bake(0);
        x.setRules(0, 3, 10, 20);
        due(3, x.copy(0, 0));
        x.setRules(0, 0, 10, 20);
        x.pass(2);
        due(STATE, thrownBy(() -> x.start(0, 0, 0)));
        x.setRules(0, 9, 10, 20);
        x.pass(1);
        due(0, x.start(0, 0, 0));
    }

    private static void copiesNoGoneBake() {
        begin(16);
        x.add(-1);
        x.bake(0);
        x.pass(20);
        due(21, x.copy(0, 0));
        x.pass(1);
        due(STATE, thrownBy(() -> x.copy(0, 1)));
        due(ARGUMENT, thrownBy(() -> x.copy(0, 3)));
    }

    private static void setsRules() {
        begin(17);
        x.add(-1);
        x.bake(0);
        int[][] bad = {{-1, 0, 0, 0}, {3, 0, 0, 0}, {0, -1, 0, 0}, {0, 10, 0, 0},
            {0, 0, -1, 0}, {0, 0, 100, 0}, {0, 0, 0, -1}, {0, 0, 0, 100}};
        for (int[] rules : bad) {
            due(ARGUMENT, setRules(rules[0], rules[1], rules[2], rules[3]));
        }
        due(1, x.copy(0, 0));
        x.pass(10);
        due(0, x.state(0));
        due("set", setRules(0, 9, 9, 99));
        due(20, x.state(0));
        due("set", setRules(2, 0, 99, 0));
        due(0, x.state(0));
        due(11, x.copy(0, 1));
        due(10, x.copy(0, 2));
        due("set", setRules(1, 2, 0, 0));
        due(20, x.state(0));
        due(1, x.pass(1));
        due(60, x.state(0));
        agesMayBeNought();
        agesMayBeNinetyNine();
    }

    private static void agesMayBeNought() {
        begin(17);
        x.add(-1);
        x.bake(0);
        due("set", setRules(0, 0, 0, 0));
        x.copy(0, 0);
        due(0, x.state(0));
        due(0, x.start(0, 0, 0));
        due(0, x.pass(1));
        due(20, x.state(0));
    }

    private static void agesMayBeNinetyNine() {
        begin(17);
        x.add(-1);
        x.bake(0);
        due("set", setRules(0, 9, 99, 99));
        x.pass(30);
        x.pass(30);
        x.pass(30);
        due(0, x.pass(9));
        due(0, x.state(0));
        due(108, x.copy(0, 0));
        due(1, x.pass(1));
        due(60, x.state(0));
    }

    private static void letsDaysGoBy() {
        begin(18);
        due(ARGUMENT, thrownBy(() -> x.pass(0)));
        due(ARGUMENT, thrownBy(() -> x.pass(-1)));
        due(ARGUMENT, thrownBy(() -> x.pass(31)));
        due(0, x.pass(30));
        due(0, x.pass(1));
        x.add(-1);
        x.step(0, 0);
        x.bake(0);
        due(32, x.copy(0, 0));
        x.pass(1);
        changeAndBake();
        due(0, x.start(0, 0, 0));
        changeAndBake();
        due(0, x.pass(20));
        due(2, x.pass(1));
        due(20, x.state(0));
        due(60, x.state(1));
        x.stop(0);
        due(20, x.state(0));
        due(1, x.pass(1));
        due(0, x.pass(30));
    }

    private static void tellsTheState() {
        beginWithBakeAtPlace(19);
        due(INDEX, thrownBy(() -> x.state(1)));
        due(INDEX, thrownBy(() -> x.state(-1)));
        due(0, x.state(0));
        x.test(0, true);
        x.raise(0);
        due(1, x.state(0));
        x.test(0, true);
        x.raise(0);
        due(2, x.state(0));
        x.start(0, 0, 2);
        x.pass(10);
        due(2, x.state(0));
        x.pass(1);
        due(22, x.state(0));
        x.hold(0);
        due(32, x.state(0));
        x.pass(30);
        due(32, x.state(0));
        x.stop(0);
        x.pass(1);
        due(72, x.state(0));
        x.setRules(0, 0, 99, 99);
        due(52, x.state(0));
    }

    private static void startsMachines() {
        beginWithBakeAtPlace(20);
        due(INDEX, thrownBy(() -> x.start(1, 3, 3)));
        due(INDEX, thrownBy(() -> x.start(-1, 0, 0)));
        due(ARGUMENT, thrownBy(() -> x.start(0, 3, 0)));
        due(ARGUMENT, thrownBy(() -> x.start(0, -1, 0)));
        due(ARGUMENT, thrownBy(() -> x.start(0, 0, 3)));
        due(ARGUMENT, thrownBy(() -> x.start(0, 0, -1)));
        due(STATE, thrownBy(() -> x.start(0, 1, 0)));
        due(STATE, thrownBy(() -> x.start(0, 0, 1)));
        due(0, x.start(0, 0, 0));
        due(0, x.runsFrom(0));
        x.test(0, true);
        x.raise(0);
        due(1, x.start(0, 0, 0));
        due(2, x.start(0, 0, 1));
        due(STATE, thrownBy(() -> x.start(0, 0, 2)));
        changeAndBake();
        due(3, x.start(0, 0, 0));
        due(0, x.runsFrom(3));
        x.copy(1, 0);
        due(4, x.start(0, 0, 0));
        due(1, x.runsFrom(4));
        due(5, x.start(0, 0, 1));
        due(0, x.runsFrom(5));
        x.hold(1);
        due(6, x.start(0, 0, 0));
        due(0, x.runsFrom(6));
        x.pass(10);
        due(7, x.start(0, 0, 0));
        x.pass(1);
        due(STATE, thrownBy(() -> x.start(0, 0, 0)));
        due(INDEX, thrownBy(() -> x.runsFrom(8)));
        startsFromBakesOfItsImageThatAreThere();
    }

    private static void startsFromBakesOfItsImageThatAreThere() {
        begin(20);
        x.add(-1);
        x.add(-1);
        x.bakeAll();
        x.setRules(1, 2, 99, 5);
        x.copy(0, 1);
        x.copy(1, 1);
        x.pass(1);
        due(STATE, thrownBy(() -> x.start(0, 1, 0)));
        x.pass(1);
        due(0, x.start(0, 1, 0));
        due(0, x.runsFrom(0));
        due(1, x.start(1, 1, 0));
        due(1, x.runsFrom(1));
        x.stop(1);
        due(1, x.pass(4));
        due(40, x.state(1));
        due(STATE, thrownBy(() -> x.start(1, 1, 0)));
        due(2, x.start(0, 1, 0));
    }

    private static void startsFromTheSixtiethBake() {
        beginWithBakeAtPlace(20);
        for (int i = 1; i < 60; i++) {
            changeAndBake();
        }
        x.start(0, 0, 0);
        due(0, x.runsFrom(0));
        x.copy(59, 0);
        x.start(0, 0, 0);
        due(59, x.runsFrom(1));
        due(1, x.old());
        due(59, x.renew(0));
    }

    private static void startsNoMoreThanThirtyMachines() {
        beginWithBakeAtPlace(20);
        for (int i = 0; i < 30; i++) {
            due(i, x.start(0, 0, 0));
            x.stop(i);
        }
        due(STATE, thrownBy(() -> x.start(0, 0, 0)));
        due(ARGUMENT, thrownBy(() -> x.start(0, 0, 3)));
        due(INDEX, thrownBy(() -> x.start(1, 0, 0)));
        due(INDEX, thrownBy(() -> x.runsFrom(30)));
    }

    private static void renewsMachines() {
        beginWithBakeAtPlace(21);
        due(INDEX, thrownBy(() -> x.renew(0)));
        x.start(0, 0, 0);
        x.test(0, true);
        x.raise(0);
        x.start(0, 0, 1);
        due(INDEX, thrownBy(() -> x.renew(2)));
        due(INDEX, thrownBy(() -> x.renew(-1)));
        due(0, x.renew(0));
        changeAndBake();
        due(0, x.renew(0));
        x.copy(1, 0);
        due(0, x.runsFrom(0));
        due(1, x.renew(0));
        due(1, x.runsFrom(0));
        due(0, x.renew(1));
        x.hold(1);
        due(0, x.renew(0));
        x.hold(0);
        due(STATE, thrownBy(() -> x.renew(0)));
        due(0, x.runsFrom(0));
        x.stop(0);
        due(INDEX, thrownBy(() -> x.renew(0)));
        renewsAtItsOwnPlace();
        renewsNotFromTooOld();
    }

    private static void renewsAtItsOwnPlace() {
        begin(21);
        x.add(-1);
        x.step(0, 0);
        x.bake(0);
        x.copy(0, 0);
        x.copy(0, 2);
        x.pass(1);
        x.start(0, 2, 0);
        x.start(0, 0, 0);
        changeAndBake();
        due(2, x.copy(1, 2));
        due(0, x.renew(0));
        x.pass(1);
        due(1, x.renew(0));
        due(0, x.renew(1));
    }

    private static void renewsNotFromTooOld() {
        beginWithBakeAtPlace(21);
        x.start(0, 0, 0);
        x.pass(11);
        due(STATE, thrownBy(() -> x.renew(0)));
        x.setRules(0, 0, 11, 20);
        due(0, x.renew(0));
    }

    private static void stopsMachines() {
        beginWithBakeAtPlace(22);
        due(INDEX, thrownBy(() -> x.stop(0)));
        x.start(0, 0, 0);
        changeAndBake();
        x.copy(1, 0);
        x.start(0, 0, 0);
        due(INDEX, thrownBy(() -> x.stop(2)));
        due(INDEX, thrownBy(() -> x.stop(-1)));
        due(1, x.stop(1));
        due(INDEX, thrownBy(() -> x.stop(1)));
        due(0, x.runsFrom(0));
        due(0, x.stop(0));
        due(0, x.hold(0));
        due(0, x.old());
        due(2, x.pass(21));
    }

    private static void tellsWhatMachinesRunFrom() {
        beginWithBakeAtPlace(23);
        due(INDEX, thrownBy(() -> x.runsFrom(0)));
        due(0, x.start(0, 0, 0));
        changeAndBake();
        x.copy(1, 0);
        due(1, x.start(0, 0, 0));
        due(0, x.runsFrom(0));
        due(1, x.runsFrom(1));
        due(INDEX, thrownBy(() -> x.runsFrom(2)));
        due(INDEX, thrownBy(() -> x.runsFrom(-1)));
        x.hold(0);
        x.pass(30);
        due(0, x.runsFrom(0));
        x.stop(0);
        due(-1, x.runsFrom(0));
        due(1, x.runsFrom(1));
    }

    private static void countsOldMachines() {
        beginWithBakeAtPlace(24);
        due(0, x.old());
        x.start(0, 0, 0);
        x.start(0, 0, 0);
        due(0, x.old());
        x.test(0, true);
        x.raise(0);
        x.start(0, 0, 1);
        changeAndBake();
        due(0, x.old());
        x.copy(1, 0);
        due(2, x.old());
        x.renew(1);
        due(1, x.old());
        x.test(1, true);
        x.raise(1);
        due(2, x.old());
        x.hold(1);
        due(1, x.old());
        due(1, x.oldAt(0));
        x.hold(0);
        due(3, x.old());
        x.stop(0);
        due(2, x.old());
        growsOld();
    }

    private static void growsOld() {
        beginWithBakeAtPlace(24);
        x.start(0, 0, 0);
        x.pass(10);
        due(0, x.old());
        x.pass(1);
        due(1, x.old());
        x.setRules(1, 0, 11, 20);
        due(0, x.old());
    }

    private static void ordersOldMachines() {
        begin(25);
        due(INDEX, thrownBy(() -> x.oldAt(0)));
        x.setRules(0, 0, 10, 20);
        for (int image = 0; image < 3; image++) {
            x.add(-1);
        }
        for (int image = 2; image >= 0; image--) {
            x.bake(image);
            x.copy(x.latest(image), 0);
            x.pass(1);
        }
        int[] imagesOfMachines = {0, 1, 2, 2, 1, 0};
        for (int image : imagesOfMachines) {
            x.start(image, 0, 0);
        }
        due(INDEX, thrownBy(() -> x.oldAt(0)));
        x.pass(8);
        orderIs(2, 3);
        x.pass(1);
        orderIs(2, 3, 1, 4);
        x.hold(2);
        orderIs(0, 5, 2, 3, 1, 4);
        x.hold(1);
        orderIs(1, 4, 0, 5, 2, 3);
        x.stop(4);
        x.stop(0);
        orderIs(1, 5, 2, 3);
        x.hold(0);
        orderIs(2, 3, 1, 5);
    }

    private static void orderIs(int... machines) {
        due(machines.length, x.old());
        for (int i = 0; i < machines.length; i++) {
            due(machines[i], x.oldAt(i));
        }
        due(INDEX, thrownBy(() -> x.oldAt(machines.length)));
        due(INDEX, thrownBy(() -> x.oldAt(-1)));
        due(INDEX, thrownBy(() -> x.oldAt(30)));
    }
}
