import java.util.ArrayDeque;
import java.util.ArrayList;
import java.util.Comparator;
import java.util.Deque;
import java.util.HashMap;
import java.util.List;
import java.util.Map;

/**
 * Long runs of calls, always the same ones, on the class and on a model of the document that is written in
 * another way: every answer, every exception, and after each call all that can be asked has to be alike.
 */
public final class ModelTests {
    private static final int RUNS = 1000;
    private static final int CALLS = 512;

    private interface Call {
        Object on(Face face);
    }

    private interface Face {
        int add(int parent);
        int step(int image, int input);
        int change(int input, int version);
        int bake(int image);
        int bakeAll();
        boolean isFresh(int image);
        boolean isFreshAnew(int image);
        int layers();
        int bakes();
        int latest(int image);
        int top(int bake);
        boolean test(int bake, boolean passed);
        int hold(int bake);
        int raise(int bake);
        int copy(int bake, int place);
        void setRules(int place, int delay, int start, int keep);
        int pass(int days);
        int state(int bake);
        int start(int image, int place, int ring);
        int renew(int machine);
        int stop(int machine);
        int runsFrom(int machine);
        int old();
        int oldAt(int place);
    }

    private static final class Real implements Face {
        private final ImageBaker x = new ImageBaker();

        public int add(int parent) { return x.add(parent); }
        public int step(int image, int input) { return x.step(image, input); }
        public int change(int input, int version) { return x.change(input, version); }
        public int bake(int image) { return x.bake(image); }
        public int bakeAll() { return x.bakeAll(); }
        public boolean isFresh(int image) { return x.isFresh(image); }
        public boolean isFreshAnew(int image) { return x.isFreshAnew(image); }
        public int layers() { return x.layers(); }
        public int bakes() { return x.bakes(); }
        public int latest(int image) { return x.latest(image); }
        public int top(int bake) { return x.top(bake); }
        public boolean test(int bake, boolean passed) { return x.test(bake, passed); }
        public int hold(int bake) { return x.hold(bake); }
        public int raise(int bake) { return x.raise(bake); }
        public int copy(int bake, int place) { return x.copy(bake, place); }
        public void setRules(int place, int delay, int start, int keep) { x.setRules(place, delay, start, keep); }
        public int pass(int days) { return x.pass(days); }
        public int state(int bake) { return x.state(bake); }
        public int start(int image, int place, int ring) { return x.start(image, place, ring); }
        public int renew(int machine) { return x.renew(machine); }
        public int stop(int machine) { return x.stop(machine); }
        public int runsFrom(int machine) { return x.runsFrom(machine); }
        public int old() { return x.old(); }
        public int oldAt(int place) { return x.oldAt(place); }
    }

    /** What a layer was made of; like things are equal. */
    private record Things(int below, int input, int version) {
    }

    private static final class Baked {
        int image;
        int top;
        int day;
        int ring;
        boolean held;
        boolean gone;
        final List<Integer> passedInRings = new ArrayList<>();
        final Map<Integer, Integer> there = new HashMap<>();
    }

    private static final class Running {
        int image;
        int place;
        int ring;
        int bake;
    }

    private static final class Model implements Face {
        private final List<Integer> parents = new ArrayList<>();
        private final List<List<Integer>> steps = new ArrayList<>();
        private final int[] version = new int[10];
        private final int[] greatest = new int[10];
        private Map<Things, Integer> made = new HashMap<>();
        private List<Baked> baked = new ArrayList<>();
        private final List<Running> running = new ArrayList<>();
        private final int[] delay = {1, 1, 1};
        private int startAge = 10;
        private int keepAge = 20;
        private int day;

        private void index(boolean good) {
            if (!good) {
                throw new IndexOutOfBoundsException();
            }
        }

        private void argument(boolean good) {
            if (!good) {
                throw new IllegalArgumentException();
            }
        }

        private void state(boolean good) {
            if (!good) {
                throw new IllegalStateException();
            }
        }

        private void image(int image) {
            index(image >= 0 && image < parents.size());
        }

        private Baked baked(int bake) {
            index(bake >= 0 && bake < baked.size());
            return baked.get(bake);
        }

        public int add(int parent) {
            index(parent >= -1 && parent < parents.size());
            state(parents.size() < 10);
            parents.add(parent);
            steps.add(new ArrayList<>());
            return parents.size() - 1;
        }

        public int step(int image, int input) {
            image(image);
            argument(input >= 0 && input <= 9);
            state(steps.get(image).size() < 5);
            steps.get(image).add(input);
            return steps.get(image).size();
        }

        public int change(int input, int asked) {
            argument(input >= 0 && input <= 9);
            argument(asked == -1 || asked >= 0 && asked < greatest[input]);
            version[input] = asked == -1 ? ++greatest[input] : asked;
            return version[input];
        }

        private int topOf(int image, Map<Things, Integer> layers) {
            int parent = parents.get(image);
            int top = parent == -1 ? -1 : baked.get(latest(parent)).top;
            for (int input : steps.get(image)) {
                Things things = new Things(top, input, version[input]);
                layers.putIfAbsent(things, layers.size());
                top = layers.get(things);
            }
            return top;
        }

        private boolean wouldMakeBake(int image) {
            return latest(image) == -1 || baked.get(latest(image)).top != topOf(image, new HashMap<>(made));
        }

        public int bake(int image) {
            image(image);
            state(parents.get(image) == -1 || latest(parents.get(image)) != -1);
            if (wouldMakeBake(image)) {
                state(baked.size() < 60);
                makeBake(image);
            }
            return latest(image);
        }

        private void makeBake(int image) {
            Baked one = new Baked();
            one.image = image;
            one.top = topOf(image, made);
            one.day = day;
            baked.add(one);
        }

        public int bakeAll() {
            List<Baked> bakedBefore = new ArrayList<>(baked);
            Map<Things, Integer> madeBefore = new HashMap<>(made);
            Deque<Integer> line = new ArrayDeque<>(childrenOf(-1));
            while (!line.isEmpty()) {
                int image = line.removeFirst();
                line.addAll(childrenOf(image));
                if (!isFresh(image)) {
                    makeBake(image);
                }
            }
            int count = baked.size() - bakedBefore.size();
            if (baked.size() > 60) {
                baked = bakedBefore;
                made = madeBefore;
                throw new IllegalStateException();
            }
            return count;
        }

        private List<Integer> childrenOf(int parent) {
            List<Integer> children = new ArrayList<>();
            for (int image = 0; image < parents.size(); image++) {
                if (parents.get(image) == parent) {
                    children.add(image);
                }
            }
            return children;
        }

        public boolean isFresh(int image) {
            image(image);
            boolean parentIsFresh = parents.get(image) == -1 || isFresh(parents.get(image));
            return latest(image) != -1 && parentIsFresh && !wouldMakeBake(image);
        }

        public boolean isFreshAnew(int image) {
            image(image);
            return latest(image) != -1
                && takenBy(baked.get(latest(image)).top).equals(wantedBy(image))
                && (parents.get(image) == -1 || isFreshAnew(parents.get(image)));
        }

        private List<List<Integer>> takenBy(int top) {
            List<List<Integer>> taken = new ArrayList<>();
            for (Map.Entry<Things, Integer> layer : made.entrySet()) {
                if (layer.getValue() == top) {
                    taken = takenBy(layer.getKey().below());
                    taken.add(List.of(layer.getKey().input(), layer.getKey().version()));
                }
            }
            return taken;
        }

        private List<List<Integer>> wantedBy(int image) {
            List<List<Integer>> wanted = image == -1 ? new ArrayList<>() : wantedBy(parents.get(image));
            if (image != -1) {
                for (int input : steps.get(image)) {
                    wanted.add(List.of(input, version[input]));
                }
            }
            return wanted;
        }

        public int layers() {
            return made.size();
        }

        public int bakes() {
            return baked.size();
        }

        public int latest(int image) {
            image(image);
            int latest = -1;
            for (int bake = 0; bake < baked.size(); bake++) {
                if (baked.get(bake).image == image) {
                    latest = bake;
                }
            }
            return latest;
        }

        public int top(int bake) {
            return baked(bake).top;
        }

        public boolean test(int bake, boolean passed) {
            Baked one = baked(bake);
            state(!one.gone);
            if (passed) {
                one.passedInRings.add(one.ring);
            }
            one.held = one.held || !passed;
            return one.held;
        }

        public int hold(int bake) {
            Baked one = baked(bake);
            state(!one.gone && !one.held);
            one.held = true;
            return (int) running.stream().filter(machine -> machine.bake == bake).count();
        }

        public int raise(int bake) {
            Baked one = baked(bake);
            state(!one.gone && !one.held && one.ring < 2 && one.passedInRings.contains(one.ring));
            return ++one.ring;
        }

        public int copy(int bake, int place) {
            Baked one = baked(bake);
            argument(place >= 0 && place <= 2);
            state(!one.gone && !one.there.containsKey(place));
            one.there.put(place, day + delay[place]);
            return one.there.get(place);
        }

        public void setRules(int place, int newDelay, int start, int keep) {
            argument(place >= 0 && place <= 2 && newDelay >= 0 && newDelay <= 9);
            argument(start >= 0 && start <= 99 && keep >= 0 && keep <= 99);
            delay[place] = newDelay;
            startAge = start;
            keepAge = keep;
        }

        public int pass(int days) {
            argument(days >= 1 && days <= 30);
            int went = 0;
            for (int i = 0; i < days; i++) {
                day++;
                for (int bake = 0; bake < baked.size(); bake++) {
                    int number = bake;
                    Baked one = baked.get(bake);
                    boolean runs = running.stream().anyMatch(machine -> machine.bake == number);
                    if (!one.gone && !runs && one.day + keepAge < day) {
                        one.gone = true;
                        went++;
                    }
                }
            }
            return went;
        }

        private boolean tooOld(Baked one) {
            return one.day + startAge < day;
        }

        public int state(int bake) {
            Baked one = baked(bake);
            return one.ring + (one.held ? 10 : 0) + (tooOld(one) ? 20 : 0) + (one.gone ? 40 : 0);
        }

        private int bakeFor(int image, int place, int ring) {
            int found = -1;
            for (int bake = 0; bake < baked.size(); bake++) {
                Baked one = baked.get(bake);
                boolean there = one.there.containsKey(place) && one.there.get(place) <= day;
                if (one.image == image && there && !one.held && !one.gone && !tooOld(one) && one.ring >= ring) {
                    found = bake;
                }
            }
            return found;
        }

        public int start(int image, int place, int ring) {
            image(image);
            argument(place >= 0 && place <= 2 && ring >= 0 && ring <= 2);
            state(bakeFor(image, place, ring) != -1 && running.size() < 30);
            Running machine = new Running();
            machine.image = image;
            machine.place = place;
            machine.ring = ring;
            machine.bake = bakeFor(image, place, ring);
            running.add(machine);
            return running.size() - 1;
        }

        private Running running(int machine) {
            index(machine >= 0 && machine < running.size());
            return running.get(machine);
        }

        public int renew(int machine) {
            Running one = running(machine);
            index(one.bake != -1);
            int found = bakeFor(one.image, one.place, one.ring);
            state(found != -1);
            one.bake = found;
            return found;
        }

        public int stop(int machine) {
            Running one = running(machine);
            index(one.bake != -1);
            int bake = one.bake;
            one.bake = -1;
            return bake;
        }

        public int runsFrom(int machine) {
            return running(machine).bake;
        }

        private List<Integer> allOld() {
            List<Integer> old = new ArrayList<>();
            for (int machine = 0; machine < running.size(); machine++) {
                Running one = running.get(machine);
                if (one.bake != -1) {
                    Baked bake = baked.get(one.bake);
                    int found = bakeFor(one.image, one.place, one.ring);
                    if (bake.held || tooOld(bake) || found != -1 && found != one.bake) {
                        old.add(machine);
                    }
                }
            }
            old.sort(Comparator.<Integer>comparingInt(machine -> bakeOf(machine).held ? 0 : 1)
                .thenComparingInt(machine -> bakeOf(machine).day)
                .thenComparingInt(machine -> machine));
            return old;
        }

        private Baked bakeOf(int machine) {
            return baked.get(running.get(machine).bake);
        }

        public int old() {
            return allOld().size();
        }

        public int oldAt(int place) {
            List<Integer> old = allOld();
            index(place >= 0 && place < old.size());
            return old.get(place);
        }
    }

    /** Numbers that look as if drawn, but are always the same ones for a seed. */
    private static final class Draws {
        private long state;

        Draws(int seed) {
            state = seed * 0x9E3779B97F4A7C15L + 1;
        }

        int nextInt(int bound) {
            state = state * 6364136223846793005L + 1442695040888963407L;
            return (int) ((state >>> 33) % bound);
        }
    }

    /** Draws calls: mostly ones that fit, now and then ones that are wrong. */
    private static final class Caller {
        private final Draws random;
        private final boolean busyWithMachines;
        private int images;
        private int bakes;
        private int machines;

        Caller(int seed) {
            random = new Draws(seed);
            busyWithMachines = seed % 2 == 0;
        }

        private int number(int count) {
            int drawn = random.nextInt(20);
            if (drawn == 0) {
                int[] wrong = {-1, -2, count, count + 1, Integer.MAX_VALUE, Integer.MIN_VALUE, 10, 60};
                return wrong[random.nextInt(wrong.length)];
            }
            if (drawn < 8 && count > 3) {
                return count - 1 - random.nextInt(3);
            }
            return random.nextInt(Math.max(count, 1));
        }

        private String draw(Face model, List<Call> into) {
            images = Math.max(images, sizeOf(10, model::latest));
            bakes = model.bakes();
            machines = Math.max(machines, sizeOf(30, model::runsFrom));
            int kind = random.nextInt(busyWithMachines ? 100 : 60);
            if (kind < 40) {
                return kind < 20 ? drawImageCall(kind, into) : drawChange(into);
            }
            return kind < 70 ? drawBakeCall(into) : drawMachineCall(into);
        }

        private int sizeOf(int most, java.util.function.IntUnaryOperator ask) {
            int size = 0;
            while (size < most) {
                try {
                    ask.applyAsInt(size);
                } catch (IndexOutOfBoundsException e) {
                    return size;
                }
                size++;
            }
            return size;
        }

        private String drawImageCall(int kind, List<Call> into) {
            int image = number(images);
            int input = number(random.nextInt(3) == 0 ? 10 : 3);
            if (kind < 4) {
                int parent = random.nextInt(3) == 0 ? -1 : image;
                into.add(face -> face.add(parent));
                return "add(" + parent + ")";
            }
            if (kind < 8) {
                into.add(face -> face.step(image, input));
                return "step(" + image + ", " + input + ")";
            }
            if (kind < 18) {
                into.add(face -> face.bake(image));
                return "bake(" + image + ")";
            }
            into.add(Face::bakeAll);
            return "bakeAll()";
        }

        private String drawChange(List<Call> into) {
            if (random.nextInt(3) > 0) {
                int days = random.nextInt(12) == 0 ? number(31) : 1 + random.nextInt(2);
                into.add(face -> face.pass(days));
                return "pass(" + days + ")";
            }
            int input = number(random.nextInt(3) == 0 ? 10 : 3);
            int version = random.nextInt(2) == 0 ? -1 : number(4);
            into.add(face -> face.change(input, version));
            return "change(" + input + ", " + version + ")";
        }

        private String drawBakeCall(List<Call> into) {
            int bake = number(bakes);
            int place = number(3);
            int kind = random.nextInt(30);
            if (kind < 9) {
                boolean passed = random.nextInt(8) > 0;
                into.add(face -> face.test(bake, passed));
                return "test(" + bake + ", " + passed + ")";
            }
            if (kind < 10) {
                into.add(face -> face.hold(bake));
                return "hold(" + bake + ")";
            }
            if (kind < 17) {
                into.add(face -> face.raise(bake));
                return "raise(" + bake + ")";
            }
            if (kind < 28) {
                into.add(face -> face.copy(bake, place));
                return "copy(" + bake + ", " + place + ")";
            }
            int delay = number(random.nextInt(4) == 0 ? 10 : 3);
            int start = number(random.nextInt(4) == 0 ? 100 : 15);
            int keep = number(random.nextInt(4) == 0 ? 100 : 25);
            into.add(face -> {
                face.setRules(place, delay, start, keep);
                return "set";
            });
            return "setRules(" + place + ", " + delay + ", " + start + ", " + keep + ")";
        }

        private String drawMachineCall(List<Call> into) {
            int machine = number(machines);
            int kind = random.nextInt(30);
            if (kind < 15) {
                int image = number(images);
                int place = number(3);
                int ring = random.nextInt(2) == 0 ? 0 : number(3);
                into.add(face -> face.start(image, place, ring));
                return "start(" + image + ", " + place + ", " + ring + ")";
            }
            if (kind < 26) {
                into.add(face -> face.renew(machine));
                return "renew(" + machine + ")";
            }
            into.add(face -> face.stop(machine));
            return "stop(" + machine + ")";
        }
    }

    private static Object answerOf(Call call, Face face) {
        try {
            return call.on(face);
        } catch (RuntimeException e) {
            return e.getClass().getName();
        }
    }

    /** All that can be asked without changing anything. */
    private static String allOf(Face face) {
        StringBuilder all = new StringBuilder();
        for (int i = -1; i <= 10; i++) {
            int n = i;
            all.append(' ').append(answerOf(f -> f.latest(n), face));
            all.append(' ').append(answerOf(f -> f.isFresh(n), face));
            all.append(' ').append(answerOf(f -> f.isFreshAnew(n), face));
        }
        for (int i = -1; i <= face.bakes(); i++) {
            int n = i;
            all.append(' ').append(answerOf(f -> f.top(n), face));
            all.append(' ').append(answerOf(f -> f.state(n), face));
        }
        for (int i = -1; i <= 30; i++) {
            int n = i;
            all.append(' ').append(answerOf(f -> f.runsFrom(n), face));
        }
        for (int i = -1; i <= face.old(); i++) {
            int n = i;
            all.append(' ').append(answerOf(f -> f.oldAt(n), face));
        }
        return all.append(' ').append(face.layers()).append(' ').append(face.bakes()).toString();
    }

    private static boolean runIsAlike(int seed) {
        Real real = new Real();
        Model model = new Model();
        Caller caller = new Caller(seed);
        for (int i = 0; i < CALLS; i++) {
            List<Call> call = new ArrayList<>();
            String told = caller.draw(model, call);
            Object got = answerOf(call.get(0), real);
            Object want = answerOf(call.get(0), model);
            if (!got.equals(want)) {
                System.out.println("run " + seed + ", call " + i + ": " + told + " answered " + got + ", due is " + want);
                return false;
            }
            if ((i % 8 == 0 || i > CALLS - 4) && !allOf(real).equals(allOf(model))) {
                System.out.println("run " + seed + ", call " + i + ": behind " + told + "\n" + allOf(real) + "\n" + allOf(model));
                return false;
            }
        }
        return true;
    }

    public static void main(String[] args) {
        int wrong = 0;
        for (int seed = 0; seed < RUNS; seed++) {
            if (!runIsAlike(seed)) {
                wrong++;
            }
        }
        if (wrong > 0) {
            System.out.println(wrong + " runs are wrong");
            System.exit(1);
        }
        System.out.println("all runs are as the model's");
    }
}
