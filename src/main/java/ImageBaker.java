/**
 * A baker of machine images: it bakes images from parents by steps, keeps layers by what they were made of,
 * raises, holds and copies bakes, and tells which machines must be renewed.
 */
public final class ImageBaker {
    private static final int NONE = -1;
    private static final int MISSING = -2;

    private static final int MAX_IMAGES = 10;
    private static final int MAX_STEPS = 5;
    private static final int MAX_BAKES = 60;
    private static final int MAX_MACHINES = 30;
    private static final int MAX_HEIGHT = MAX_IMAGES * MAX_STEPS;
    // Only a bake that is made makes layers, and at most one for each of its steps.
    private static final int MAX_LAYERS = MAX_BAKES * MAX_STEPS;

    private static final int INPUTS = 10;
    private static final int PLACES = 3;
    private static final int LAST_RING = 2;
    private static final int MAX_DELAY = 9;
    private static final int MAX_AGE = 99;
    private static final int MAX_DAYS = 30;

    private static final int FIRST_DELAY = 1;
    private static final int FIRST_START_AGE = 10;
    private static final int FIRST_KEEP_AGE = 20;

    private static final int HELD_STATE = 10;
    private static final int TOO_OLD_STATE = 20;
    private static final int GONE_STATE = 40;

    private final Layers layers = new Layers();
    private final int[] versions = new int[INPUTS];
    private final int[] greatestVersions = new int[INPUTS];

    private final Image[] images = new Image[MAX_IMAGES];
    private int imageCount;
    private final Bake[] bakes = new Bake[MAX_BAKES];
    private int bakeCount;
    private final Machine[] machines = new Machine[MAX_MACHINES];
    private int machineCount;

    private int today;
    private final int[] delays = new int[PLACES];
    private int startAge;
    private int keepAge;

    // Rows that calls fill anew, so that no call has to make any.
    private final Image[] line = new Image[MAX_IMAGES];
    private final Image[] forefathers = new Image[MAX_IMAGES];
    private final int[] chain = new int[MAX_HEIGHT];
    private final Machine[] waiting = new Machine[MAX_MACHINES];

    public ImageBaker() {
        for (int place = 0; place < delays.length; place++) {
            delays[place] = FIRST_DELAY;
        }
        startAge = FIRST_START_AGE;
        keepAge = FIRST_KEEP_AGE;
    }

    // ---- images

    public int add(int parent) throws IndexOutOfBoundsException, IllegalStateException {
        Image father = parent == NONE ? null : imageAt(parent);
        if (imageCount < 0 || imageCount >= images.length) {
            throw new IllegalStateException("there are 10 images");
        }
        Image added = new Image(imageCount, father);
        images[imageCount] = added;
        imageCount++;
        return added.number;
    }

    public int step(int image, int input)
            throws IndexOutOfBoundsException, IllegalArgumentException, IllegalStateException {
        Image asked = imageAt(image);
        if (input < 0 || input >= INPUTS) {
            throw new IllegalArgumentException("input is out of range");
        }
        if (!asked.takesStep(input)) {
            throw new IllegalStateException("the image has 5 steps");
        }
        return asked.stepCount;
    }

    public int change(int input, int version) throws IllegalArgumentException {
        if (input < 0 || input >= versions.length || input >= greatestVersions.length) {
            throw new IllegalArgumentException("input is out of range");
        }
        if (version < NONE || version >= greatestVersions[input]) {
            throw new IllegalArgumentException("version is neither new nor an earlier one");
        }
        if (version == NONE) {
            greatestVersions[input]++;
        }
        versions[input] = version == NONE ? greatestVersions[input] : version;
        return versions[input];
    }

    public int bake(int image) throws IndexOutOfBoundsException, IllegalStateException {
        Image asked = imageAt(image);
        if (asked.parent != null && asked.parent.latest == null) {
            throw new IllegalStateException("the parent was not baked");
        }
        if (wouldMakeBake(asked) && bakeCount >= MAX_BAKES) {
            throw new IllegalStateException("there were 60 bakes");
        }
        bakeIfNeeded(asked);
        return numberOf(asked.latest);
    }

    public int bakeAll() throws IllegalStateException {
        int before = bakeCount;
        if (before + countBakesToCome() > MAX_BAKES) {
            throw new IllegalStateException("there would be more than 60 bakes");
        }
        fillLine();
        // Parents stand ahead in the line, so an image whose turn it is has a fresh parent:
        // it is not fresh exactly if baking it makes a bake.
        for (Image image : line) {
            bakeIfNeeded(image);
        }
        return bakeCount - before;
    }

    public boolean isFresh(int image) throws IndexOutOfBoundsException {
        for (Image asked = imageAt(image); asked != null; asked = asked.parent) {
            if (wouldMakeBake(asked)) {
                return false;
            }
        }
        return true;
    }

    public boolean isFreshAnew(int image) throws IndexOutOfBoundsException {
        for (Image asked = imageAt(image); asked != null; asked = asked.parent) {
            if (!isMadeAsNow(asked)) {
                return false;
            }
        }
        return true;
    }

    public int layers() {
        return layers.count;
    }

    public int bakes() {
        return bakeCount;
    }

    public int latest(int image) throws IndexOutOfBoundsException {
        return numberOf(imageAt(image).latest);
    }

    public int top(int bake) throws IndexOutOfBoundsException {
        return bakeAt(bake).top;
    }

    // ---- rings, places, days

    public boolean test(int bake, boolean passed) throws IndexOutOfBoundsException, IllegalStateException {
        Bake tested = bakeAt(bake);
        if (tested.gone) {
            throw new IllegalStateException("the bake is gone");
        }
        if (passed) {
            tested.passedInRing = true;
        } else {
            tested.held = true;
        }
        return tested.held;
    }

    public int hold(int bake) throws IndexOutOfBoundsException, IllegalStateException {
        Bake held = bakeAt(bake);
        if (held.gone || held.held) {
            throw new IllegalStateException("the bake is gone or held");
        }
        held.held = true;
        return countMachinesFrom(held);
    }

    public int raise(int bake) throws IndexOutOfBoundsException, IllegalStateException {
        Bake raised = bakeAt(bake);
        if (raised.gone || raised.held || raised.ring >= LAST_RING || !raised.passedInRing) {
            throw new IllegalStateException("the bake cannot be raised");
        }
        raised.ring++;
        raised.passedInRing = false;
        return raised.ring;
    }

    public int copy(int bake, int place)
            throws IndexOutOfBoundsException, IllegalArgumentException, IllegalStateException {
        Bake copied = bakeAt(bake);
        if (place < 0 || place >= PLACES) {
            throw new IllegalArgumentException("place is out of range");
        }
        if (copied.gone || copied.firstDayAt(place) != NONE) {
            throw new IllegalStateException("the bake is gone or was copied there");
        }
        copied.arriveAt(place, today + at(delays, place));
        return copied.firstDayAt(place);
    }

    public void setRules(int place, int delay, int start, int keep) throws IllegalArgumentException {
        if (place < 0 || place >= delays.length) {
            throw new IllegalArgumentException("place is out of range");
        }
        if (delay < 0 || delay > MAX_DELAY) {
            throw new IllegalArgumentException("delay is out of range");
        }
        if (start < 0 || start > MAX_AGE || keep < 0 || keep > MAX_AGE) {
            throw new IllegalArgumentException("an age is out of range");
        }
        delays[place] = delay;
        startAge = start;
        keepAge = keep;
    }

    public int pass(int days) throws IllegalArgumentException {
        if (days < 1 || days > MAX_DAYS) {
            throw new IllegalArgumentException("days is out of range");
        }
        today += days;
        // Neither machines nor rules change while days go by, so one look at the last day finds all that went.
        int went = 0;
        for (Bake bake : bakes) {
            if (bake != null && mustGo(bake)) {
                bake.gone = true;
                went++;
            }
        }
        return went;
    }

    public int state(int bake) throws IndexOutOfBoundsException {
        Bake asked = bakeAt(bake);
        int state = asked.ring;
        if (asked.held) {
            state += HELD_STATE;
        }
        if (isTooOld(asked)) {
            state += TOO_OLD_STATE;
        }
        if (asked.gone) {
            state += GONE_STATE;
        }
        return state;
    }

    // ---- machines

    public int start(int image, int place, int ring)
            throws IndexOutOfBoundsException, IllegalArgumentException, IllegalStateException {
        Image asked = imageAt(image);
        if (place < 0 || place >= PLACES || ring < 0 || ring > LAST_RING) {
            throw new IllegalArgumentException("place or ring is out of range");
        }
        Bake found = bakeFor(asked, place, ring);
        if (found == null || machineCount < 0 || machineCount >= machines.length) {
            throw new IllegalStateException("there is no bake for it, or there were 30 machines");
        }
        Machine started = new Machine(machineCount, asked, place, ring, found);
        machines[machineCount] = started;
        machineCount++;
        return started.number;
    }

    public int renew(int machine) throws IndexOutOfBoundsException, IllegalStateException {
        Machine renewed = runningAt(machine);
        Bake found = bakeFor(renewed.image, renewed.place, renewed.ring);
        if (found == null) {
            throw new IllegalStateException("there is no bake for it");
        }
        renewed.bake = found;
        return found.number;
    }

    public int stop(int machine) throws IndexOutOfBoundsException {
        Machine stopped = runningAt(machine);
        int ranFrom = numberOf(stopped.bake);
        stopped.bake = null;
        return ranFrom;
    }

    public int runsFrom(int machine) throws IndexOutOfBoundsException {
        return numberOf(machineAt(machine).bake);
    }

    public int old() {
        return fillWaiting();
    }

    public int oldAt(int place) throws IndexOutOfBoundsException {
        int count = fillWaiting();
        Machine found = place >= 0 && place < count && place < waiting.length ? waiting[place] : null;
        if (found == null) {
            throw new IndexOutOfBoundsException("there are not so many");
        }
        return found.number;
    }

    // ---- what the calls of the images need

    private Image imageAt(int number) {
        Image found = number >= 0 && number < images.length ? images[number] : null;
        if (found == null) {
            throw new IndexOutOfBoundsException("there is no such image");
        }
        return found;
    }

    private static int topOfParent(Image image) {
        return image.parent == null || image.parent.latest == null ? NONE : image.parent.latest.top;
    }

    // Finds layers and makes none (MISSING instead), because calls that only ask may change nothing.
    private int topFrom(int begin, Image image) {
        int top = begin;
        for (int i = 0; i < image.stepCount; i++) {
            int input = at(image.inputs, i);
            top = layers.find(top, input, at(versions, input));
        }
        return top;
    }

    private int makeTopFrom(int begin, Image image) {
        int top = begin;
        for (int i = 0; i < image.stepCount; i++) {
            int input = at(image.inputs, i);
            top = layers.findOrMake(top, input, at(versions, input));
        }
        return top;
    }

    private boolean wouldMakeBake(Image image) {
        return image.latest == null || image.latest.top != topFrom(topOfParent(image), image);
    }

    private void bakeIfNeeded(Image image) {
        if (image == null || !wouldMakeBake(image) || bakeCount < 0 || bakeCount >= bakes.length) {
            return;
        }
        int top = makeTopFrom(topOfParent(image), image);
        Bake made = new Bake(bakeCount, image, top, today);
        bakes[bakeCount] = made;
        bakeCount++;
        image.latest = made;
    }

    // Counted ahead of the first bake, so that bakeAll can refuse with nothing changed.
    private int countBakesToCome() {
        int count = 0;
        // A parent has a lower number, so its top to come is known when its children's are looked for.
        for (Image image : images) {
            if (image != null) {
                int begin = image.parent == null ? NONE : image.parent.topToCome;
                image.topToCome = topFrom(begin, image);
                if (image.latest == null || image.latest.top != image.topToCome) {
                    count++;
                }
            }
        }
        return count;
    }

    private void fillLine() {
        int end = lineUpChildren(null, 0);
        for (int i = 0; i < end && i < line.length; i++) {
            end = lineUpChildren(line[i], end);
        }
    }

    // The parent null stands for none, so that those without a parent are lined up like all others.
    private int lineUpChildren(Image parent, int end) {
        int newEnd = end;
        for (Image child : images) {
            if (child != null && child.parent == parent && newEnd >= 0 && newEnd < line.length) {
                line[newEnd] = child;
                newEnd++;
            }
        }
        return newEnd;
    }

    // Looks at inputs and versions, never at tops: so isFreshAnew tells in another way what isFresh tells.
    private boolean isMadeAsNow(Image image) {
        if (image.latest == null) {
            return false;
        }
        int height = layers.fillChain(image.latest.top, chain);
        int alike = 0;
        for (int i = fillForefathers(image) - 1; i >= 0; i--) {
            Image forefather = i < forefathers.length ? forefathers[i] : null;
            alike = forefather == null ? MISSING : followSteps(forefather, alike, height);
        }
        return alike == height;
    }

    // The image stands first and the oldest forefather last, because an image knows only its own parent.
    private int fillForefathers(Image image) {
        int count = 0;
        for (Image listed = image; listed != null && count < forefathers.length; listed = listed.parent) {
            forefathers[count] = listed;
            count++;
        }
        return count;
    }

    // Answers how many layers are alike then (MISSING: one is not), so that the child's steps go on from there.
    private int followSteps(Image image, int from, int height) {
        if (from < 0) {
            return MISSING;
        }
        for (int i = 0; i < image.stepCount; i++) {
            int input = at(image.inputs, i);
            // The chain counts from the top, the steps from the lowest layer.
            int layer = at(chain, height - 1 - from - i);
            if (!layers.isOf(layer, input, at(versions, input))) {
                return MISSING;
            }
        }
        return from + image.stepCount;
    }

    // ---- what the calls of the bakes need

    private Bake bakeAt(int number) {
        Bake found = number >= 0 && number < bakes.length ? bakes[number] : null;
        if (found == null) {
            throw new IndexOutOfBoundsException("there never was such a bake");
        }
        return found;
    }

    private static int numberOf(Bake bake) {
        return bake == null ? NONE : bake.number;
    }

    private boolean isTooOld(Bake bake) {
        return today - bake.day > startAge;
    }

    private boolean mustGo(Bake bake) {
        return !bake.gone && today - bake.day > keepAge && countMachinesFrom(bake) == 0;
    }

    private int countMachinesFrom(Bake bake) {
        int count = 0;
        for (Machine machine : machines) {
            if (machine != null && machine.bake == bake) {
                count++;
            }
        }
        return count;
    }

    // ---- what the calls of the machines need

    private Machine machineAt(int number) {
        Machine found = number >= 0 && number < machines.length ? machines[number] : null;
        if (found == null) {
            throw new IndexOutOfBoundsException("there never was such a machine");
        }
        return found;
    }

    private Machine runningAt(int number) {
        Machine found = machineAt(number);
        if (found.bake == null) {
            throw new IndexOutOfBoundsException("the machine was stopped");
        }
        return found;
    }

    // From the greatest number down, because the latest of all bakes that can start counts.
    private Bake bakeFor(Image image, int place, int ring) {
        for (int i = bakes.length - 1; i >= 0; i--) {
            Bake bake = bakes[i];
            if (bake != null && bake.image == image && canStart(bake, place, ring)) {
                return bake;
            }
        }
        return null;
    }

    private boolean canStart(Bake bake, int place, int ring) {
        int firstDay = bake.firstDayAt(place);
        boolean isThere = firstDay != NONE && firstDay <= today;
        return isThere && !bake.held && !bake.gone && !isTooOld(bake) && bake.ring >= ring;
    }

    private boolean mustRenew(Machine machine) {
        if (machine.bake == null) {
            return false;
        }
        if (machine.bake.held || isTooOld(machine.bake)) {
            return true;
        }
        Bake found = bakeFor(machine.image, machine.place, machine.ring);
        return found != null && found != machine.bake;
    }

    // By rising numbers, so that of two machines that are alike the lower number stays ahead.
    private int fillWaiting() {
        int count = 0;
        for (Machine machine : machines) {
            if (machine != null && mustRenew(machine)) {
                insertWaiting(machine, count);
                count++;
            }
        }
        return count;
    }

    private void insertWaiting(Machine machine, int count) {
        int at = count;
        while (at > 0 && at < waiting.length && isAhead(machine.bake, waiting[at - 1])) {
            waiting[at] = waiting[at - 1];
            at--;
        }
        if (at >= 0 && at < waiting.length) {
            waiting[at] = machine;
        }
    }

    // The other machine's number is lower, so it stays ahead if nothing else tells them apart.
    private static boolean isAhead(Bake bake, Machine other) {
        if (bake == null || other == null || other.bake == null) {
            return false;
        }
        if (bake.held != other.bake.held) {
            return bake.held;
        }
        return bake.day < other.bake.day;
    }

    private static int at(int[] row, int index) {
        return index >= 0 && index < row.length ? row[index] : NONE;
    }

    /** The layers by their numbers, each with what it was made of. */
    private static final class Layers {
        private final int[] belows = new int[MAX_LAYERS];
        private final int[] inputs = new int[MAX_LAYERS];
        private final int[] versions = new int[MAX_LAYERS];
        private int count;

        private int find(int below, int input, int version) {
            for (int layer = 0; layer < count && layer < belows.length; layer++) {
                if (belows[layer] == below && isOf(layer, input, version)) {
                    return layer;
                }
            }
            return MISSING;
        }

        private int findOrMake(int below, int input, int version) {
            int found = find(below, input, version);
            if (found != MISSING || count < 0 || count >= MAX_LAYERS) {
                return found;
            }
            int made = count;
            belows[made] = below;
            inputs[made] = input;
            versions[made] = version;
            count++;
            return made;
        }

        private boolean isOf(int layer, int input, int version) {
            return layer >= 0 && layer < count && at(inputs, layer) == input && at(versions, layer) == version;
        }

        // The lowest layer stands last, because a layer knows only the one below it.
        private int fillChain(int top, int[] chain) {
            int height = 0;
            int layer = top;
            while (layer != NONE && height < chain.length) {
                chain[height] = layer;
                height++;
                layer = at(belows, layer);
            }
            return height;
        }
    }

    /** An image with its steps, its latest bake (null: none), and the top that baking all would bring it. */
    private static final class Image {
        private final int number;
        private final Image parent;
        private final int[] inputs = new int[MAX_STEPS];
        private int stepCount;
        private Bake latest;
        private int topToCome;

        private Image(int number, Image parent) {
            this.number = number;
            this.parent = parent;
        }

        private boolean takesStep(int input) {
            if (stepCount < 0 || stepCount >= inputs.length) {
                return false;
            }
            inputs[stepCount] = input;
            stepCount++;
            return true;
        }
    }

    /** A bake with its ring and the days from which on it is at the places. */
    private static final class Bake {
        private final int number;
        private final Image image;
        private final int top;
        private final int day;
        private final int[] firstDays = new int[PLACES];
        private int ring;
        private boolean passedInRing;
        private boolean held;
        private boolean gone;

        private Bake(int number, Image image, int top, int day) {
            this.number = number;
            this.image = image;
            this.top = top;
            this.day = day;
            for (int place = 0; place < firstDays.length; place++) {
                firstDays[place] = NONE;
            }
        }

        private int firstDayAt(int place) {
            return at(firstDays, place);
        }

        private void arriveAt(int place, int day) {
            if (place >= 0 && place < firstDays.length) {
                firstDays[place] = day;
            }
        }
    }

    /** A machine with what it was started by, and the bake from which it runs (null: it was stopped). */
    private static final class Machine {
        private final int number;
        private final Image image;
        private final int place;
        private final int ring;
        private Bake bake;

        private Machine(int number, Image image, int place, int ring, Bake bake) {
            this.number = number;
            this.image = image;
            this.place = place;
            this.ring = ring;
            this.bake = bake;
        }
    }
}
