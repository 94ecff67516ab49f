/** Pumice that is sledged down a slope of ash to the sea. */
public final class PumiceSledge {
    private static final int LAYERS = 5;
    private static final int MOST_STONES = 500;
    private static final int MOST_WEIGHT = 9;
    private static final int STONES_OF_SACK = 10;

    private static final int HEAVY = 0;
    private static final int FAIR = 1;
    private static final int LIGHT = 2;
    private static final int KINDS = 3;

    private static final int GUSTS = 8;
    private static final int MOST_GUST = 9;

    private static final int MOST_SLEDGES = 6;
    private static final int MOST_HOLDS = 8;
    private static final int TOP = 20;
    private static final int STANDS = 0;
    private static final int GOES_DOWN = 1;
    private static final int GOES_UP = 2;

    private static final int MOST_BOATS = 4;
    private static final int LEAST_LOAD = 100;
    private static final int MOST_LOAD = 900;

    private static final int MOST_HOURS = 60;
    // A way down and up again takes 14 hours at most: 20 down by 2 or more, 20 up by 5.
    private static final int MORE_THAN_A_WAY = 100;

    private static final int LAYER_WHATS = 4;
    private static final int SLEDGE_WHATS = 6;
    private static final int BOAT_WHATS = 7;
    private static final int COUNT_WHATS = 9;
    private static final int COUNT_ABOARD = 5;
    private static final int COUNT_ON_BEACH = 6;
    private static final int COUNT_LOST = 7;

    private final int[] stones = new int[LAYERS];
    private final int[] stoneWeights = new int[LAYERS];
    private final int[] gusts = new int[GUSTS];
    private final Sledge[] sledges = new Sledge[MOST_SLEDGES];
    private int sledgeCount;
    private final Boat[] boats = new Boat[MOST_BOATS];
    private int boatCount;
    private final Shore shore = new Shore();
    private int hour;
    private int coins;
    // What would be is played on these, so that asking changes nothing and makes no new objects.
    private final Sledge trial = new Sledge();
    private final Shore trialShore = new Shore();

    /** Creates a slope without sledges and boats, in the hour 0. */
    public PumiceSledge() {
        for (int i = 0; i < LAYERS; i++) {
            stones[i] = 100;
            stoneWeights[i] = 5;
        }
        for (int i = 0; i < MOST_SLEDGES; i++) {
            sledges[i] = new Sledge();
        }
        for (int i = 0; i < MOST_BOATS; i++) {
            boats[i] = new Boat();
        }
    }

    // ---- layers, gusts, sledges

    /** Sets a layer's stones and the weight of each; returns 10 * stones + weight of before. */
    public int set(int layer, int stones, int weight)
            throws IndexOutOfBoundsException, IllegalArgumentException {
        if (!isLayer(layer)) {
            throw new IndexOutOfBoundsException("layer is not 0 to 4");
        }
        if (!isWithin(stones, 0, MOST_STONES)) {
            throw new IllegalArgumentException("stones is not 0 to 500");
        }
        if (!isWithin(weight, 1, MOST_WEIGHT)) {
            throw new IllegalArgumentException("weight is not 1 to 9");
        }
        int before = 10 * this.stones[layer] + stoneWeights[layer];
        this.stones[layer] = stones;
        stoneWeights[layer] = weight;
        return before;
    }

    /** Sets the gust of an hour of the table; returns the gust before. */
    public int setGust(int hour, int gust)
            throws IndexOutOfBoundsException, IllegalArgumentException {
        if (!isWithin(hour, 0, GUSTS - 1)) {
            throw new IndexOutOfBoundsException("hour is not 0 to 7");
        }
        if (!isWithin(gust, 0, MOST_GUST)) {
            throw new IllegalArgumentException("gust is not 0 to 9");
        }
        int before = gusts[hour];
        gusts[hour] = gust;
        return before;
    }

    /** Adds a sledge; returns its number. */
    public int build(int holds) throws IllegalArgumentException, IllegalStateException {
        if (!isWithin(holds, 1, MOST_HOLDS)) {
            throw new IllegalArgumentException("holds is not 1 to 8");
        }
        if (sledgeCount >= MOST_SLEDGES) {
            throw new IllegalStateException("there are 6 sledges");
        }
        sledges[sledgeCount].holds = holds;
        sledgeCount++;
        return sledgeCount - 1;
    }

    /** Fills a sack out of a layer, and puts it onto a sledge; returns its kind. */
    public int fill(int sledge, int layer)
            throws IndexOutOfBoundsException, IllegalStateException {
        if (!isSledge(sledge)) {
            throw new IndexOutOfBoundsException("there is no such sledge");
        }
        if (!isLayer(layer)) {
            throw new IndexOutOfBoundsException("layer is not 0 to 4");
        }
        Sledge filled = sledges[sledge];
        if (filled.course != STANDS) {
            throw new IllegalStateException("the sledge does not stand");
        }
        if (filled.isFull()) {
            throw new IllegalStateException("the sledge is full");
        }
        if (stones[layer] < STONES_OF_SACK) {
            throw new IllegalStateException("the layer has fewer than 10 stones");
        }
        stones[layer] -= STONES_OF_SACK;
        int weight = sackWeight(layer);
        filled.load(weight);
        return kindOf(weight);
    }

    /** Has a sledge that stands go down; returns how many sacks are aboard. */
    public int go(int sledge) throws IndexOutOfBoundsException, IllegalStateException {
        if (!isSledge(sledge)) {
            throw new IndexOutOfBoundsException("there is no such sledge");
        }
        Sledge going = sledges[sledge];
        if (going.course != STANDS) {
            throw new IllegalStateException("the sledge does not stand");
        }
        going.course = GOES_DOWN;
        return going.aboard;
    }

    // ---- boats

    /** Adds a boat; returns its number. */
    public int launch(int load) throws IllegalArgumentException, IllegalStateException {
        if (!isWithin(load, LEAST_LOAD, MOST_LOAD)) {
            throw new IllegalArgumentException("load is not 100 to 900");
        }
        if (boatCount >= MOST_BOATS) {
            throw new IllegalStateException("there are 4 boats");
        }
        boats[boatCount].mostLoad = load;
        boatCount++;
        return boatCount - 1;
    }

    /** Stows a sack from the beach in a boat; returns the trim then. */
    public int stow(int boat, int kind, boolean isFore)
            throws IndexOutOfBoundsException, IllegalStateException {
        if (!isBoat(boat)) {
            throw new IndexOutOfBoundsException("there is no such boat");
        }
        if (!isKind(kind)) {
            throw new IndexOutOfBoundsException("kind is not 0 to 2");
        }
        Boat stowed = boats[boat];
        int weight = stowedWeight(kind);
        if (shore.sacks[kind] < 1) {
            throw new IllegalStateException("there is no such sack on the beach");
        }
        if (weight > stowed.room()) {
            throw new IllegalStateException("the boat would have more than its load");
        }
        shore.sacks[kind]--;
        if (isFore) {
            stowed.fore += weight;
        } else {
            stowed.aft += weight;
        }
        return stowed.trim();
    }

    /** Has a boat sail, which comes back empty at once; returns the coins that it brings. */
    public int sail(int boat) throws IndexOutOfBoundsException, IllegalStateException {
        if (!isBoat(boat)) {
            throw new IndexOutOfBoundsException("there is no such boat");
        }
        Boat sailing = boats[boat];
        if (!sailing.canSail()) {
            throw new IllegalStateException("the boat cannot sail");
        }
        int brought = sailing.worth();
        sailing.fore = 0;
        sailing.aft = 0;
        coins += brought;
        return brought;
    }

    // ---- what is there

    /** Returns 0 a layer's stones, 1 the weight of each, 2 its sacks' kind, 3 sacks left in it. */
    public int layer(int layer, int what) throws IndexOutOfBoundsException {
        if (!isLayer(layer)) {
            throw new IndexOutOfBoundsException("layer is not 0 to 4");
        }
        if (!isWithin(what, 0, LAYER_WHATS - 1)) {
            throw new IndexOutOfBoundsException("what is not 0 to 3");
        }
        switch (what) {
            case 0:
                return stones[layer];
            case 1:
                return stoneWeights[layer];
            case 2:
                return kindOf(sackWeight(layer));
            default:
                return stones[layer] / STONES_OF_SACK;
        }
    }

    /**
     * Returns 0 the sacks a sledge holds, 1 those aboard, 2 its height, 3 its course, 4 the weight
     * of all sacks aboard, 5 the kind of the last one, -1 without any.
     */
    public int told(int sledge, int what) throws IndexOutOfBoundsException {
        if (!isSledge(sledge)) {
            throw new IndexOutOfBoundsException("there is no such sledge");
        }
        if (!isWithin(what, 0, SLEDGE_WHATS - 1)) {
            throw new IndexOutOfBoundsException("what is not 0 to 5");
        }
        Sledge asked = sledges[sledge];
        switch (what) {
            case 0:
                return asked.holds;
            case 1:
                return asked.aboard;
            case 2:
                return asked.height;
            case 3:
                return asked.course;
            case 4:
                return asked.weightAboard();
            default:
                return asked.lastKind();
        }
    }

    /**
     * Returns 0 a boat's load at most, 1 the weight fore, 2 that aft, 3 its trim, 4 its depth,
     * 5 1 if it can sail, else 0, 6 what it still carries.
     */
    public int boat(int boat, int what) throws IndexOutOfBoundsException {
        if (!isBoat(boat)) {
            throw new IndexOutOfBoundsException("there is no such boat");
        }
        if (!isWithin(what, 0, BOAT_WHATS - 1)) {
            throw new IndexOutOfBoundsException("what is not 0 to 6");
        }
        Boat asked = boats[boat];
        switch (what) {
            case 0:
                return asked.mostLoad;
            case 1:
                return asked.fore;
            case 2:
                return asked.aft;
            case 3:
                return asked.trim();
            case 4:
                return asked.depth();
            case 5:
                return asked.canSail() ? 1 : 0;
            default:
                return asked.room();
        }
    }

    /** Returns how many sacks of a kind lie on the beach. */
    public int beach(int kind) throws IndexOutOfBoundsException {
        if (!isKind(kind)) {
            throw new IndexOutOfBoundsException("kind is not 0 to 2");
        }
        return shore.sacks[kind];
    }

    /**
     * Returns 0 the hour, 1 its gust, 2 sledges, 3 boats, 4 coins, 5 sacks aboard of all sledges,
     * 6 sacks on the beach, 7 sacks that fell off in all, 8 stones of all layers.
     */
    public int count(int what) throws IndexOutOfBoundsException {
        if (!isWithin(what, 0, COUNT_WHATS - 1)) {
            throw new IndexOutOfBoundsException("what is not 0 to 8");
        }
        switch (what) {
            case 0:
                return hour;
            case 1:
                return gustAt(hour);
            case 2:
                return sledgeCount;
            case 3:
                return boatCount;
            case 4:
                return coins;
            case COUNT_ABOARD:
                return sacksAboard();
            case COUNT_ON_BEACH:
                return shore.allSacks();
            case COUNT_LOST:
                return shore.lost;
            default:
                return allStones();
        }
    }

    // ---- hours and what would be

    /** Lets hours go by; returns how many sacks come to the beach in them. */
    public int pass(int hours) throws IllegalArgumentException {
        if (!isWithin(hours, 1, MOST_HOURS)) {
            throw new IllegalArgumentException("hours is not 1 to 60");
        }
        int before = shore.allSacks();
        for (int i = 0; i < hours; i++) {
            passOneHour();
        }
        return shore.allSacks() - before;
    }

    /** Returns behind how many hours a sledge is at the top again; 0 if it stands. */
    public int back(int sledge) throws IndexOutOfBoundsException {
        if (!isSledge(sledge)) {
            throw new IndexOutOfBoundsException("there is no such sledge");
        }
        trial.become(sledges[sledge]);
        int hours = 0;
        while (trial.course != STANDS && hours < MORE_THAN_A_WAY) {
            trial.travel(gustAt(hour + hours), trialShore);
            hours++;
        }
        return hours;
    }

    /** Returns how many of a sledge's sacks will come to the beach; 0 if it goes up. */
    public int arrives(int sledge) throws IndexOutOfBoundsException {
        if (!isSledge(sledge)) {
            throw new IndexOutOfBoundsException("there is no such sledge");
        }
        trial.become(sledges[sledge]);
        if (trial.course == GOES_UP) {
            return 0;
        }
        trial.course = GOES_DOWN;
        int before = trialShore.allSacks();
        for (int i = 0; trial.course == GOES_DOWN && i < MORE_THAN_A_WAY; i++) {
            trial.travel(gustAt(hour + i), trialShore);
        }
        return trialShore.allSacks() - before;
    }

    /** Returns where a sack of a kind had best be put: 1 fore, 2 aft, 0 if it is too much. */
    public int advise(int boat, int kind) throws IndexOutOfBoundsException {
        if (!isBoat(boat)) {
            throw new IndexOutOfBoundsException("there is no such boat");
        }
        if (!isKind(kind)) {
            throw new IndexOutOfBoundsException("kind is not 0 to 2");
        }
        Boat asked = boats[boat];
        int weight = stowedWeight(kind);
        if (weight > asked.room()) {
            return 0;
        }
        int depthFore = depthOf(asked.fore + weight, asked.aft);
        int depthAft = depthOf(asked.fore, asked.aft + weight);
        return depthFore <= depthAft ? 1 : 2;
    }

    /** Returns what count(what) will tell behind so many hours, if nothing is done. */
    public int foresee(int hours, int what)
            throws IllegalArgumentException, IndexOutOfBoundsException {
        if (!isWithin(hours, 1, MOST_HOURS)) {
            throw new IllegalArgumentException("hours is not 1 to 60");
        }
        if (!isWithin(what, COUNT_ABOARD, COUNT_LOST)) {
            throw new IndexOutOfBoundsException("what is not 5 to 7");
        }
        trialShore.become(shore);
        int aboard = 0;
        for (int i = 0; i < sledgeCount; i++) {
            aboard += aboardBehind(hours, sledges[i]);
        }
        switch (what) {
            case COUNT_ABOARD:
                return aboard;
            case COUNT_ON_BEACH:
                return trialShore.allSacks();
            default:
                return trialShore.lost;
        }
    }

    /** Returns the mean weight of all sacks aboard of sledges; 0 without any. */
    public double mean() {
        int sacks = sacksAboard();
        if (sacks == 0) {
            return 0.0;
        }
        int weight = 0;
        for (int i = 0; i < sledgeCount; i++) {
            weight += sledges[i].weightAboard();
        }
        return (double) weight / sacks;
    }

    /** Computes a checksum of all that the object tells. */
    public long digest() {
        long d = 1321;
        for (int what = 0; what < COUNT_WHATS; what++) {
            d = mixed(d, count(what));
        }
        for (int i = 0; i < GUSTS; i++) {
            d = mixed(d, gusts[i]);
        }
        for (int i = 0; i < LAYERS; i++) {
            d = withLayer(d, i);
        }
        for (int i = 0; i < sledgeCount; i++) {
            d = withSledge(d, i);
        }
        for (int i = 0; i < boatCount; i++) {
            d = withBoat(d, i);
        }
        for (int kind = 0; kind < KINDS; kind++) {
            d = mixed(d, shore.sacks[kind]);
        }
        return d;
    }

    private long withLayer(long d, int layer) {
        for (int what = 0; what < LAYER_WHATS; what++) {
            d = mixed(d, layer(layer, what));
        }
        return d;
    }

    private long withSledge(long d, int sledge) {
        for (int what = 0; what < SLEDGE_WHATS; what++) {
            d = mixed(d, told(sledge, what));
        }
        Sledge asked = sledges[sledge];
        for (int i = 0; i < asked.aboard; i++) {
            d = mixed(d, asked.weights[i]);
        }
        return d;
    }

    private long withBoat(long d, int boat) {
        for (int what = 0; what < BOAT_WHATS; what++) {
            d = mixed(d, boat(boat, what));
        }
        return d;
    }

    private static long mixed(long d, int x) {
        return d * 31 + x;
    }

    private void passOneHour() {
        int gust = gustAt(hour);
        // Sledges do not touch one another, so each may go through the whole hour by itself.
        for (int i = 0; i < sledgeCount; i++) {
            sledges[i].travel(gust, shore);
        }
        hour++;
    }

    private int aboardBehind(int hours, Sledge sledge) {
        trial.become(sledge);
        for (int i = 0; i < hours; i++) {
            trial.travel(gustAt(hour + i), trialShore);
        }
        return trial.aboard;
    }

    private int gustAt(int time) {
        // floorMod keeps the index good even if the hours ever wrapped around.
        return gusts[Math.floorMod(time, GUSTS)];
    }

    private int sacksAboard() {
        int sum = 0;
        for (int i = 0; i < sledgeCount; i++) {
            sum += sledges[i].aboard;
        }
        return sum;
    }

    private int allStones() {
        int sum = 0;
        for (int i = 0; i < LAYERS; i++) {
            sum += stones[i];
        }
        return sum;
    }

    private int sackWeight(int layer) {
        return STONES_OF_SACK * stoneWeights[layer];
    }

    private boolean isSledge(int sledge) {
        return sledge >= 0 && sledge < sledgeCount;
    }

    private boolean isBoat(int boat) {
        return boat >= 0 && boat < boatCount;
    }

    private static boolean isLayer(int layer) {
        return isWithin(layer, 0, LAYERS - 1);
    }

    private static boolean isKind(int kind) {
        return isWithin(kind, 0, KINDS - 1);
    }

    private static boolean isWithin(int x, int least, int most) {
        return x >= least && x <= most;
    }

    private static int kindOf(int weight) {
        if (weight <= 30) {
            return LIGHT;
        }
        return weight <= 60 ? FAIR : HEAVY;
    }

    private static int stowedWeight(int kind) {
        switch (kind) {
            case LIGHT:
                return 20;
            case FAIR:
                return 50;
            default:
                return 80;
        }
    }

    private static int depthOf(int fore, int aft) {
        return (fore + aft) / 50 + Math.abs(fore - aft) / 40;
    }

    /** A sledge, with the weights of its sacks in the order in which they were put there. */
    private static final class Sledge {
        private int holds;
        private final int[] weights = new int[MOST_HOLDS];
        private int aboard;
        private int height = TOP;
        private int course = STANDS;

        boolean isFull() {
            return aboard >= holds || aboard >= MOST_HOLDS;
        }

        void load(int weight) {
            if (!isFull()) {
                weights[aboard] = weight;
                aboard++;
            }
        }

        int weightAboard() {
            int sum = 0;
            for (int i = 0; i < aboard; i++) {
                sum += weights[i];
            }
            return sum;
        }

        int lastKind() {
            return aboard > 0 ? kindOf(weights[aboard - 1]) : -1;
        }

        void become(Sledge other) {
            holds = other.holds;
            System.arraycopy(other.weights, 0, weights, 0, MOST_HOLDS);
            aboard = other.aboard;
            height = other.height;
            course = other.course;
        }

        void travel(int gust, Shore shore) {
            if (course == GOES_DOWN) {
                comeDown(gust, shore);
            } else if (course == GOES_UP) {
                comeUp();
            }
        }

        private void comeDown(int gust, Shore shore) {
            if (aboard > 0 && gust > 4 + 2 * aboard) {
                aboard--;
                shore.lost++;
            }
            height = Math.max(0, height - (4 - aboard / 3 + gust / 2));
            if (height == 0) {
                unload(shore);
                course = GOES_UP;
            }
        }

        private void unload(Shore shore) {
            for (int i = 0; i < aboard; i++) {
                shore.sacks[kindOf(weights[i])]++;
            }
            aboard = 0;
        }

        private void comeUp() {
            height = Math.min(TOP, height + 5);
            if (height == TOP) {
                course = STANDS;
            }
        }
    }

    /** A boat, with what it carries fore and aft. */
    private static final class Boat {
        private int mostLoad;
        private int fore;
        private int aft;

        int trim() {
            return fore - aft;
        }

        int depth() {
            return depthOf(fore, aft);
        }

        boolean canSail() {
            return depth() <= 20 && isWithin(trim(), -100, 100);
        }

        int room() {
            return mostLoad - fore - aft;
        }

        int worth() {
            return (fore + aft) / 10 * 3;
        }
    }

    /** Where sacks end: on the beach, by their kind, or lost on the way. */
    private static final class Shore {
        private final int[] sacks = new int[KINDS];
        private int lost;

        int allSacks() {
            return sacks[HEAVY] + sacks[FAIR] + sacks[LIGHT];
        }

        void become(Shore other) {
            System.arraycopy(other.sacks, 0, sacks, 0, KINDS);
            lost = other.lost;
        }
    }
}
