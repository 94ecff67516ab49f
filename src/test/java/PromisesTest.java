/** Each promise by itself: ordinary inputs, the edges that the document names, wrong inputs. */
public final class PromisesTest extends Slopes {
    private static final Check check = new Check();

    public static void main(String[] args) {
        promise1NewObject();
        promise2Set();
        promise3SetGust();
        promise4Build();
        promise5Fill();
        promise5FillRefuses();
        promise6Go();
        promise7Launch();
        promise8Stow();
        promise8StowRefuses();
        promise9Sail();
        promise9SailAsDeepAsCanBe();
        promise10Layer();
        promise11Told();
        promise12Boat();
        promise12Depth();
        promise13Beach();
        promise14Count();
        promise15Pass();
        promise15SpeedBySacks();
        promise15SpeedByGust();
        promise15SacksFallOff();
        promise15LastSackFalls();
        promise15GoingUp();
        promise15TableOfGusts();
        promise16Back();
        promise17Arrives();
        promise18Advise();
        promise19Foresee();
        promise20Mean();
        promise21Digest();
        fullSlope();
        check.end();
    }

    private static void due(String call, long want, long got) {
        check.due(call, want, got);
    }

    private static void promise1NewObject() {
        PumiceSledge x = new PumiceSledge();
        for (int what = 0; what < 8; what++) {
            due("new: count(" + what + ")", 0, x.count(what));
        }
        due("new: count(8)", 500, x.count(8));
        for (int layer = 0; layer < 5; layer++) {
            due("new: layer(" + layer + ", 0)", 100, x.layer(layer, 0));
            due("new: layer(" + layer + ", 1)", 5, x.layer(layer, 1));
        }
        for (int kind = 0; kind < 3; kind++) {
            due("new: beach(" + kind + ")", 0, x.beach(kind));
        }
        for (int hour = 0; hour < 8; hour++) {
            due("new: setGust(" + hour + ", 0)", 0, x.setGust(hour, 0));
        }
        check.dueThrow("new: told(0, 0)", INDEX, () -> x.told(0, 0));
        check.dueThrow("new: boat(0, 0)", INDEX, () -> x.boat(0, 0));
        x.set(0, 1, 1);
        due("another new: layer(0, 0)", 100, new PumiceSledge().layer(0, 0));
    }

    private static void promise2Set() {
        PumiceSledge x = new PumiceSledge();
        due("set(0, 0, 1)", 1005, x.set(0, 0, 1));
        due("set(0, 500, 9)", 1, x.set(0, 500, 9));
        due("set(0, 7, 2)", 5009, x.set(0, 7, 2));
        due("set(4, 1, 1)", 1005, x.set(4, 1, 1));
        due("layer(0, 0)", 7, x.layer(0, 0));
        due("layer(0, 1)", 2, x.layer(0, 1));
        due("layer(1, 0)", 100, x.layer(1, 0));
        for (int layer : new int[] {-1, 5, MIN, MAX}) {
            check.dueThrow("set(" + layer + ", 1, 1)", INDEX, () -> x.set(layer, 1, 1));
            check.dueThrow("set(" + layer + ", -1, 0)", INDEX, () -> x.set(layer, -1, 0));
        }
        for (int stones : new int[] {-1, 501, MIN, MAX}) {
            check.dueThrow("set(0, " + stones + ", 1)", ARGUMENT, () -> x.set(0, stones, 1));
        }
        for (int weight : new int[] {-1, 0, 10, MIN, MAX}) {
            check.dueThrow("set(0, 1, " + weight + ")", ARGUMENT, () -> x.set(0, 1, weight));
        }
        due("set(0, 0, 1) behind refused ones", 72, x.set(0, 0, 1));
    }

    private static void promise3SetGust() {
        PumiceSledge x = new PumiceSledge();
        for (int hour = 0; hour < 8; hour++) {
            due("setGust(" + hour + ")", 0, x.setGust(hour, hour + 2));
        }
        for (int hour = 0; hour < 8; hour++) {
            due("setGust(" + hour + ", 0)", hour + 2, x.setGust(hour, 0));
        }
        due("setGust(0, 3)", 0, x.setGust(0, 3));
        for (int hour : new int[] {-1, 8, MIN, MAX}) {
            check.dueThrow("setGust(" + hour + ", 1)", INDEX, () -> x.setGust(hour, 1));
            check.dueThrow("setGust(" + hour + ", 10)", INDEX, () -> x.setGust(hour, 10));
        }
        for (int gust : new int[] {-1, 10, MIN, MAX}) {
            check.dueThrow("setGust(0, " + gust + ")", ARGUMENT, () -> x.setGust(0, gust));
        }
        due("setGust(0, 0) behind refused ones", 3, x.setGust(0, 0));
    }

    private static void promise4Build() {
        PumiceSledge x = new PumiceSledge();
        for (int holds : new int[] {-1, 0, 9, MIN, MAX}) {
            check.dueThrow("build(" + holds + ")", ARGUMENT, () -> x.build(holds));
        }
        int[] holds = {1, 8, 3, 4, 5, 6};
        for (int i = 0; i < 6; i++) {
            due("build(" + holds[i] + ")", i, x.build(holds[i]));
            due("told(" + i + ", 0)", holds[i], x.told(i, 0));
            due("told(" + i + ", 1)", 0, x.told(i, 1));
            due("told(" + i + ", 2)", 20, x.told(i, 2));
            due("told(" + i + ", 3)", 0, x.told(i, 3));
            due("count(2)", i + 1, x.count(2));
        }
        check.dueThrow("build(1), the seventh", STATE, () -> x.build(1));
        check.dueThrow("build(0), the seventh", ARGUMENT, () -> x.build(0));
        check.dueThrow("build(9), the seventh", ARGUMENT, () -> x.build(9));
        due("count(2) behind refused ones", 6, x.count(2));
        due("told(0, 0) behind refused ones", 1, x.told(0, 0));
    }

    private static void promise5Fill() {
        PumiceSledge x = new PumiceSledge();
        x.build(8);
        int[] kinds = {LIGHT, LIGHT, LIGHT, FAIR, FAIR, FAIR, HEAVY, HEAVY, HEAVY};
        for (int weight = 1; weight <= 9; weight++) {
            PumiceSledge y = new PumiceSledge();
            y.build(1);
            y.set(4, 10, weight);
            due("fill with weight " + weight, kinds[weight - 1], y.fill(0, 4));
            due("its told(0, 4)", 10 * weight, y.told(0, 4));
            due("its told(0, 5)", kinds[weight - 1], y.told(0, 5));
            due("its layer(4, 0)", 0, y.layer(4, 0));
        }
        x.set(0, 25, 2);
        due("fill(0, 0)", LIGHT, x.fill(0, 0));
        due("layer(0, 0)", 15, x.layer(0, 0));
        x.set(0, 15, 9);
        due("told(0, 4): a sack keeps its weight", 20, x.told(0, 4));
        due("told(0, 5): a sack keeps its kind", LIGHT, x.told(0, 5));
        due("fill(0, 0)", HEAVY, x.fill(0, 0));
        due("told(0, 4)", 110, x.told(0, 4));
        due("count(5)", 2, x.count(5));
    }

    private static void promise5FillRefuses() {
        PumiceSledge x = slope();
        check.dueThrow("fill without a sledge", INDEX, () -> x.fill(0, 0));
        x.build(2);
        for (int bad : new int[] {-1, 1, 6, MIN, MAX}) {
            check.dueThrow("fill(" + bad + ", 0)", INDEX, () -> x.fill(bad, 0));
        }
        for (int bad : new int[] {-1, 5, MIN, MAX}) {
            check.dueThrow("fill(0, " + bad + ")", INDEX, () -> x.fill(0, bad));
        }
        x.set(3, 9, 1);
        check.dueThrow("fill with 9 stones", STATE, () -> x.fill(0, 3));
        due("layer(3, 0) behind a refused fill", 9, x.layer(3, 0));
        x.fill(0, 0);
        x.fill(0, 1);
        check.dueThrow("fill of a full sledge", STATE, () -> x.fill(0, 0));
        check.dueThrow("fill of a full sledge, no layer", INDEX, () -> x.fill(0, 5));
        due("layer(0, 0) behind a refused fill", 490, x.layer(0, 0));
        due("told(0, 1) behind a refused fill", 2, x.told(0, 1));
        x.build(2);
        x.go(1);
        check.dueThrow("fill of a sledge that goes down", STATE, () -> x.fill(1, 0));
        x.pass(5);
        due("told(1, 3)", 2, x.told(1, 3));
        check.dueThrow("fill of a sledge that goes up", STATE, () -> x.fill(1, 0));
        check.dueThrow("fill of it, no layer", INDEX, () -> x.fill(1, -1));
        x.pass(4);
        due("fill of it when it stands again", LIGHT, x.fill(1, 0));
    }

    private static void promise6Go() {
        PumiceSledge x = slope();
        check.dueThrow("go without a sledge", INDEX, () -> x.go(0));
        sledgeWith(x, 3, 0);
        sledgeWith(x, 0, 0);
        due("go(0)", 3, x.go(0));
        due("told(0, 3)", 1, x.told(0, 3));
        due("told(0, 2)", 20, x.told(0, 2));
        due("told(1, 3)", 0, x.told(1, 3));
        check.dueThrow("go of a sledge that goes down", STATE, () -> x.go(0));
        due("go(1)", 0, x.go(1));
        x.pass(5);
        due("told(1, 3)", 2, x.told(1, 3));
        check.dueThrow("go of a sledge that goes up", STATE, () -> x.go(1));
        x.pass(4);
        due("go(1) again", 0, x.go(1));
        for (int bad : new int[] {-1, 2, 6, MIN, MAX}) {
            check.dueThrow("go(" + bad + ")", INDEX, () -> x.go(bad));
        }
    }

    private static void promise7Launch() {
        PumiceSledge x = new PumiceSledge();
        for (int load : new int[] {-1, 0, 99, 901, MIN, MAX}) {
            check.dueThrow("launch(" + load + ")", ARGUMENT, () -> x.launch(load));
        }
        int[] loads = {100, 900, 101, 555};
        for (int i = 0; i < 4; i++) {
            due("launch(" + loads[i] + ")", i, x.launch(loads[i]));
            due("boat(" + i + ", 0)", loads[i], x.boat(i, 0));
            due("boat(" + i + ", 1)", 0, x.boat(i, 1));
            due("boat(" + i + ", 2)", 0, x.boat(i, 2));
            due("count(3)", i + 1, x.count(3));
        }
        check.dueThrow("launch(100), the fifth", STATE, () -> x.launch(100));
        check.dueThrow("launch(99), the fifth", ARGUMENT, () -> x.launch(99));
        due("count(3) behind refused ones", 4, x.count(3));
    }

    private static void promise8Stow() {
        PumiceSledge x = beachWith(2, 2, 2);
        x.launch(900);
        x.launch(300);
        due("stow heavy fore", 80, x.stow(1, HEAVY, true));
        due("stow fair aft", 30, x.stow(1, FAIR, false));
        due("stow light aft", 10, x.stow(1, LIGHT, false));
        due("stow heavy aft", -70, x.stow(1, HEAVY, false));
        due("stow fair fore", -20, x.stow(1, FAIR, true));
        due("stow light fore, to the load", 0, x.stow(1, LIGHT, true));
        due("boat(1, 1)", 150, x.boat(1, 1));
        due("boat(1, 2)", 150, x.boat(1, 2));
        due("boat(1, 6)", 0, x.boat(1, 6));
        due("boat(0, 1)", 0, x.boat(0, 1));
        for (int kind = 0; kind < 3; kind++) {
            due("beach(" + kind + ")", 0, x.beach(kind));
        }
    }

    private static void promise8StowRefuses() {
        PumiceSledge x = beachWith(3, 1, 0);
        check.dueThrow("stow without a boat", INDEX, () -> x.stow(0, 0, true));
        x.launch(209);
        for (int bad : new int[] {-1, 1, 4, MIN, MAX}) {
            check.dueThrow("stow(" + bad + ", 0)", INDEX, () -> x.stow(bad, 0, true));
        }
        for (int bad : new int[] {-1, 3, MIN, MAX}) {
            check.dueThrow("stow(0, " + bad + ")", INDEX, () -> x.stow(0, bad, true));
        }
        check.dueThrow("stow of no sack", STATE, () -> x.stow(0, LIGHT, true));
        x.stow(0, HEAVY, true);
        x.stow(0, HEAVY, false);
        check.dueThrow("stow fore beyond the load", STATE, () -> x.stow(0, HEAVY, true));
        check.dueThrow("stow aft beyond the load", STATE, () -> x.stow(0, HEAVY, false));
        check.dueThrow("stow one more than the load", STATE, () -> x.stow(0, FAIR, true));
        due("beach(0) behind refused ones", 1, x.beach(HEAVY));
        due("beach(1) behind refused ones", 1, x.beach(FAIR));
        due("boat(0, 1) behind refused ones", 80, x.boat(0, 1));
        due("boat(0, 2) behind refused ones", 80, x.boat(0, 2));
    }

    private static void promise9Sail() {
        PumiceSledge x = beachWith(2, 3, 3);
        check.dueThrow("sail without a boat", INDEX, () -> x.sail(0));
        x.launch(900);
        x.launch(100);
        due("sail of an empty boat", 0, x.sail(0));
        x.stow(0, HEAVY, true);
        x.stow(0, LIGHT, true);
        due("boat(0, 3)", 100, x.boat(0, 3));
        due("boat(0, 5) with a trim of 100", 1, x.boat(0, 5));
        x.stow(0, LIGHT, true);
        due("boat(0, 5) with a trim of 120", 0, x.boat(0, 5));
        check.dueThrow("sail with a trim of 120", STATE, () -> x.sail(0));
        due("count(4) behind a refused sail", 0, x.count(4));
        due("boat(0, 1) behind a refused sail", 120, x.boat(0, 1));
        x.stow(0, FAIR, false);
        due("sail with 120 and 50", 51, x.sail(0));
        due("boat(0, 1) behind it", 0, x.boat(0, 1));
        due("boat(0, 2) behind it", 0, x.boat(0, 2));
        due("boat(0, 0) behind it", 900, x.boat(0, 0));
        x.stow(0, FAIR, false);
        x.stow(0, FAIR, false);
        due("boat(0, 5) with a trim of -100", 1, x.boat(0, 5));
        x.stow(0, LIGHT, false);
        due("boat(0, 5) with a trim of -120", 0, x.boat(0, 5));
        check.dueThrow("sail with a trim of -120", STATE, () -> x.sail(0));
        x.stow(0, HEAVY, true);
        due("sail with 80 and 120", 60, x.sail(0));
        due("count(4)", 111, x.count(4));
        for (int bad : new int[] {-1, 2, 4, MIN, MAX}) {
            check.dueThrow("sail(" + bad + ")", INDEX, () -> x.sail(bad));
        }
    }

    /** With 500 fore and 400 aft the depth is 18 + 2, and both bounds are just kept. */
    private static void promise9SailAsDeepAsCanBe() {
        PumiceSledge x = beachWith(5, 10, 0);
        x.launch(900);
        for (int i = 0; i < 5; i++) {
            x.stow(0, FAIR, true);
            x.stow(0, HEAVY, false);
            x.stow(0, FAIR, true);
        }
        dueBoat(x, 0, 900, 500, 400, 100, 20, 1, 0);
        due("sail with a depth of 20 and a trim of 100", 270, x.sail(0));
    }

    private static void promise10Layer() {
        PumiceSledge x = new PumiceSledge();
        int[][] rows = {
            {0, 1, LIGHT, 0}, {9, 3, LIGHT, 0}, {10, 4, FAIR, 1}, {99, 6, FAIR, 9},
            {500, 7, HEAVY, 50},
        };
        for (int layer = 0; layer < 5; layer++) {
            x.set(layer, rows[layer][0], rows[layer][1]);
        }
        for (int layer = 0; layer < 5; layer++) {
            for (int what = 0; what < 4; what++) {
                due("layer(" + layer + ", " + what + ")", rows[layer][what], x.layer(layer, what));
            }
        }
        for (int bad : new int[] {-1, 5, MIN, MAX}) {
            check.dueThrow("layer(" + bad + ", 0)", INDEX, () -> x.layer(bad, 0));
        }
        for (int bad : new int[] {-1, 4, MIN, MAX}) {
            check.dueThrow("layer(0, " + bad + ")", INDEX, () -> x.layer(0, bad));
        }
    }

    private static void promise11Told() {
        PumiceSledge x = slope();
        x.build(3);
        dueTold(x, 0, 3, 0, 20, 0, 0, -1);
        x.fill(0, 0);
        dueTold(x, 0, 3, 1, 20, 0, 30, LIGHT);
        x.fill(0, 2);
        dueTold(x, 0, 3, 2, 20, 0, 120, HEAVY);
        x.fill(0, 1);
        dueTold(x, 0, 3, 3, 20, 0, 180, FAIR);
        x.go(0);
        dueTold(x, 0, 3, 3, 20, 1, 180, FAIR);
        x.pass(1);
        dueTold(x, 0, 3, 3, 17, 1, 180, FAIR);
        x.pass(6);
        dueTold(x, 0, 3, 0, 0, 2, 0, -1);
        x.pass(3);
        dueTold(x, 0, 3, 0, 15, 2, 0, -1);
        x.pass(1);
        dueTold(x, 0, 3, 0, 20, 0, 0, -1);
        for (int bad : new int[] {-1, 1, 6, MIN, MAX}) {
            check.dueThrow("told(" + bad + ", 0)", INDEX, () -> x.told(bad, 0));
        }
        for (int bad : new int[] {-1, 6, MIN, MAX}) {
            check.dueThrow("told(0, " + bad + ")", INDEX, () -> x.told(0, bad));
        }
    }

    private static void dueTold(PumiceSledge x, int sledge, int... want) {
        for (int what = 0; what < want.length; what++) {
            due("told(" + sledge + ", " + what + ")", want[what], x.told(sledge, what));
        }
    }

    private static void promise12Boat() {
        PumiceSledge x = beachWith(3, 1, 0);
        x.launch(400);
        x.launch(100);
        dueBoat(x, 0, 400, 0, 0, 0, 0, 1, 400);
        x.stow(0, HEAVY, true);
        dueBoat(x, 0, 400, 80, 0, 80, 3, 1, 320);
        x.stow(0, HEAVY, true);
        dueBoat(x, 0, 400, 160, 0, 160, 7, 0, 240);
        x.stow(0, FAIR, false);
        dueBoat(x, 0, 400, 160, 50, 110, 6, 0, 190);
        x.stow(0, HEAVY, false);
        dueBoat(x, 0, 400, 160, 130, 30, 5, 1, 110);
        dueBoat(x, 1, 100, 0, 0, 0, 0, 1, 100);
        for (int bad : new int[] {-1, 2, 4, MIN, MAX}) {
            check.dueThrow("boat(" + bad + ", 0)", INDEX, () -> x.boat(bad, 0));
        }
        for (int bad : new int[] {-1, 7, MIN, MAX}) {
            check.dueThrow("boat(0, " + bad + ")", INDEX, () -> x.boat(0, bad));
        }
    }

    private static void dueBoat(PumiceSledge x, int boat, int... want) {
        for (int what = 0; what < want.length; what++) {
            due("boat(" + boat + ", " + what + ")", want[what], x.boat(boat, what));
        }
    }

    /** Both quotients are cut by themselves, and a trim below 0 counts like one above. */
    private static void promise12Depth() {
        PumiceSledge x = beachWith(10, 0, 5);
        x.launch(900);
        int[] depths = {3, 7, 10, 14};
        for (int i = 0; i < 4; i++) {
            x.stow(0, HEAVY, false);
            due("boat(0, 4) with " + (i + 1) + " heavy aft", depths[i], x.boat(0, 4));
        }
        due("boat(0, 3)", -320, x.boat(0, 3));
        for (int i = 0; i < 5; i++) {
            x.stow(0, HEAVY, i > 0);
        }
        due("boat(0, 3)", -80, x.boat(0, 3));
        due("boat(0, 4) with 320 and 400", 16, x.boat(0, 4));
        x.stow(0, HEAVY, false);
        x.stow(0, LIGHT, true);
        x.stow(0, LIGHT, true);
        x.stow(0, LIGHT, true);
        due("boat(0, 3)", -100, x.boat(0, 3));
        due("boat(0, 4) with 380 and 480", 19, x.boat(0, 4));
        due("boat(0, 5) with 380 and 480", 1, x.boat(0, 5));
        due("sail(0) with 860", 258, x.sail(0));
    }

    private static void promise13Beach() {
        PumiceSledge x = beachWith(1, 2, 9);
        due("beach(0)", 1, x.beach(HEAVY));
        due("beach(1)", 2, x.beach(FAIR));
        due("beach(2)", 9, x.beach(LIGHT));
        x.launch(100);
        x.stow(0, FAIR, true);
        due("beach(1) behind stow", 1, x.beach(FAIR));
        due("beach(2) behind stow", 9, x.beach(LIGHT));
        for (int bad : new int[] {-1, 3, MIN, MAX}) {
            check.dueThrow("beach(" + bad + ")", INDEX, () -> x.beach(bad));
        }
    }

    private static void promise14Count() {
        PumiceSledge x = slope();
        for (int hour = 0; hour < 8; hour++) {
            x.setGust(hour, 9 - hour);
        }
        sledgeWith(x, 3, 0);
        sledgeWith(x, 1, 1);
        x.launch(100);
        dueCount(x, 0, 9, 2, 1, 0, 4, 0, 0, 1660);
        x.go(0);
        x.go(1);
        x.pass(3);
        dueCount(x, 3, 6, 2, 1, 0, 0, 3, 1, 1660);
        x.stow(0, LIGHT, true);
        x.stow(0, LIGHT, false);
        x.sail(0);
        dueCount(x, 3, 6, 2, 1, 12, 0, 1, 1, 1660);
        x.pass(5);
        dueCount(x, 8, 9, 2, 1, 12, 0, 1, 1, 1660);
        for (int bad : new int[] {-1, 9, MIN, MAX}) {
            check.dueThrow("count(" + bad + ")", INDEX, () -> x.count(bad));
        }
    }

    private static void dueCount(PumiceSledge x, int... want) {
        for (int what = 0; what < want.length; what++) {
            due("count(" + what + ")", want[what], x.count(what));
        }
    }

    private static void promise15Pass() {
        PumiceSledge x = slope();
        for (int bad : new int[] {-1, 0, 61, MIN, MAX}) {
            check.dueThrow("pass(" + bad + ")", ARGUMENT, () -> x.pass(bad));
        }
        due("count(0) behind refused ones", 0, x.count(0));
        due("pass(1)", 0, x.pass(1));
        due("pass(60)", 0, x.pass(60));
        due("count(0)", 61, x.count(0));
        sledgeWith(x, 2, 0);
        sledgeWith(x, 4, 2);
        sledgeWith(x, 1, 1);
        x.go(0);
        x.go(1);
        due("pass(4)", 0, x.pass(4));
        due("pass(1): the sledge of 2 comes down", 2, x.pass(1));
        due("told(0, 3)", 2, x.told(0, 3));
        due("told(0, 2): it goes up from the next hour on", 0, x.told(0, 2));
        due("pass(60): the sledge of 4 comes down", 4, x.pass(60));
        due("beach(2)", 2, x.beach(LIGHT));
        due("beach(0)", 4, x.beach(HEAVY));
        due("beach(1)", 0, x.beach(FAIR));
        due("told(2, 1): a sledge that stands keeps its sacks", 1, x.told(2, 1));
        due("told(2, 2)", 20, x.told(2, 2));
    }

    private static void promise15SpeedBySacks() {
        int[] down = {4, 4, 4, 3, 3, 3, 2, 2, 2};
        for (int sacks = 0; sacks <= 8; sacks++) {
            PumiceSledge x = slope();
            sledgeWith(x, sacks, 0);
            x.go(0);
            x.pass(1);
            due("height behind an hour with " + sacks, 20 - down[sacks], x.told(0, 2));
        }
    }

    private static void promise15SpeedByGust() {
        int[] down = {4, 4, 5, 5, 6, 6, 7, 7, 8, 8};
        for (int gust = 0; gust <= 9; gust++) {
            PumiceSledge x = allGusts(slope(), gust);
            x.build(1);
            x.go(0);
            x.pass(1);
            due("height behind an hour of gust " + gust, 20 - down[gust], x.told(0, 2));
        }
    }

    private static void promise15SacksFallOff() {
        for (int sacks = 0; sacks <= 8; sacks++) {
            for (int gust = 0; gust <= 9; gust++) {
                PumiceSledge x = allGusts(slope(), gust);
                sledgeWith(x, sacks, 0);
                x.pass(1);
                due("count(7) while it stands", 0, x.count(7));
                x.go(0);
                x.pass(1);
                int falls = sacks > 0 && gust > 4 + 2 * sacks ? 1 : 0;
                String call = " with " + sacks + " and gust " + gust;
                due("count(7)" + call, falls, x.count(7));
                due("told(0, 1)" + call, sacks - falls, x.told(0, 1));
                due("count(8): stones of a lost sack stay lost", 1700 - 10 * sacks, x.count(8));
            }
        }
    }

    /** The last of two falls off, then the first, one in an hour; an empty sledge loses none. */
    private static void promise15LastSackFalls() {
        PumiceSledge x = allGusts(slope(), 9);
        sledgeWith(x, 1, 2);
        x.fill(0, 0);
        x.go(0);
        x.pass(1);
        due("told(0, 5): the last has fallen off", HEAVY, x.told(0, 5));
        due("told(0, 4)", 90, x.told(0, 4));
        due("told(0, 2)", 12, x.told(0, 2));
        x.pass(1);
        due("told(0, 1)", 0, x.told(0, 1));
        due("told(0, 2)", 4, x.told(0, 2));
        due("pass(1): nothing comes", 0, x.pass(1));
        due("told(0, 2)", 0, x.told(0, 2));
        due("told(0, 3)", 2, x.told(0, 3));
        due("count(7)", 2, x.count(7));

        PumiceSledge y = slope();
        y.setGust(4, 7);
        sledgeWith(y, 1, 0);
        y.go(0);
        y.pass(4);
        due("told(0, 2) ahead of the last hour", 4, y.told(0, 2));
        due("pass(1): it falls off ahead of the unloading", 0, y.pass(1));
        due("beach(2)", 0, y.beach(LIGHT));
        due("count(7)", 1, y.count(7));
    }

    private static void promise15GoingUp() {
        PumiceSledge x = allGusts(slope(), 9);
        x.build(1);
        x.go(0);
        x.pass(3);
        int[] heights = {0, 5, 10, 15, 20, 20};
        int[] courses = {2, 2, 2, 2, 0, 0};
        for (int i = 0; i < 6; i++) {
            due("told(0, 2) " + i + " hours up", heights[i], x.told(0, 2));
            due("told(0, 3) " + i + " hours up", courses[i], x.told(0, 3));
            x.pass(1);
        }
    }

    private static void promise15TableOfGusts() {
        PumiceSledge x = slope();
        for (int hour = 0; hour < 8; hour++) {
            x.setGust(hour, hour);
        }
        x.build(1);
        x.pass(14);
        due("count(1) in the hour 14", 6, x.count(1));
        x.go(0);
        x.pass(1);
        due("told(0, 2) behind the gust 6", 13, x.told(0, 2));
        x.pass(1);
        due("told(0, 2) behind the gust 7", 6, x.told(0, 2));
        x.pass(1);
        due("told(0, 2) behind the gust 0", 2, x.told(0, 2));
        due("count(1) in the hour 17", 1, x.count(1));
    }

    private static void promise16Back() {
        PumiceSledge x = slope();
        check.dueThrow("back without a sledge", INDEX, () -> x.back(0));
        sledgeWith(x, 0, 0);
        sledgeWith(x, 8, 0);
        due("back of one that stands", 0, x.back(0));
        x.go(0);
        x.go(1);
        long before = x.digest();
        due("back of an empty one: 5 down, 4 up", 9, x.back(0));
        due("back of a full one: 10 down, 4 up", 14, x.back(1));
        due("digest() behind back", before, x.digest());
        for (int hour = 1; hour <= 14; hour++) {
            x.pass(1);
            due("back(0) in the hour " + hour, Math.max(0, 9 - hour), x.back(0));
            due("back(1) in the hour " + hour, 14 - hour, x.back(1));
        }
        PumiceSledge y = allGusts(slope(), 9);
        sledgeWith(y, 8, 0);
        y.go(0);
        due("back by gusts of 9", 8, y.back(0));
        y.setGust(3, 0);
        y.setGust(2, 0);
        due("back by gusts of 9, 9, 0, 0, 9", 9, y.back(0));
        y.setGust(1, 0);
        due("back by gusts of 9, 0, 0, 0, 9, 9", 10, y.back(0));
        for (int bad : new int[] {-1, 1, 6, MIN, MAX}) {
            check.dueThrow("back(" + bad + ")", INDEX, () -> y.back(bad));
        }
    }

    private static void promise17Arrives() {
        PumiceSledge x = slope();
        check.dueThrow("arrives without a sledge", INDEX, () -> x.arrives(0));
        sledgeWith(x, 2, 0);
        sledgeWith(x, 4, 1);
        sledgeWith(x, 0, 0);
        long before = x.digest();
        due("arrives of one that stands", 2, x.arrives(0));
        due("arrives of another", 4, x.arrives(1));
        due("arrives of an empty one", 0, x.arrives(2));
        due("arrives of one that stands, again", 2, x.arrives(0));
        due("digest() behind arrives", before, x.digest());
        x.setGust(1, 9);
        due("arrives with one gust", 1, x.arrives(0));
        x.setGust(4, 7);
        due("arrives with two gusts, too late for one", 1, x.arrives(0));
        x.setGust(2, 7);
        due("arrives with two gusts", 0, x.arrives(0));
        x.go(0);
        x.go(1);
        x.pass(1);
        due("arrives of one that goes down", 0, x.arrives(0));
        x.setGust(2, 0);
        x.setGust(1, 8);
        x.setGust(4, 0);
        due("arrives of two by a gust of 8", 2, x.arrives(0));
        x.pass(59);
        due("arrives of one that stands again", 0, x.arrives(1));
        x.fill(1, 0);
        x.go(1);
        x.pass(5);
        due("told(1, 3)", 2, x.told(1, 3));
        due("arrives of one that goes up", 0, x.arrives(1));
        for (int bad : new int[] {-1, 3, 6, MIN, MAX}) {
            check.dueThrow("arrives(" + bad + ")", INDEX, () -> x.arrives(bad));
        }
    }

    private static void promise18Advise() {
        PumiceSledge x = beachWith(2, 2, 3);
        check.dueThrow("advise without a boat", INDEX, () -> x.advise(0, 0));
        x.launch(200);
        x.launch(100);
        due("advise of both as deep", 1, x.advise(0, HEAVY));
        x.stow(0, HEAVY, true);
        long before = x.digest();
        due("advise heavy with 80 fore", 2, x.advise(0, HEAVY));
        due("advise light with 80 fore", 2, x.advise(0, LIGHT));
        due("digest() behind advise", before, x.digest());
        x.stow(0, HEAVY, false);
        due("advise light with 160 of 200", 1, x.advise(0, LIGHT));
        due("advise fair with 160 of 200", 0, x.advise(0, FAIR));
        x.stow(0, LIGHT, false);
        due("advise light to the load, as deep", 1, x.advise(0, LIGHT));
        x.stow(0, LIGHT, true);
        due("advise light with 200 of 200", 0, x.advise(0, LIGHT));
        x.stow(1, FAIR, false);
        due("advise fair with 50 aft", 1, x.advise(1, FAIR));
        due("advise heavy with 50 of 100", 0, x.advise(1, HEAVY));
        x.stow(1, FAIR, true);
        due("advise light with 100 of 100", 0, x.advise(1, LIGHT));
        x.launch(100);
        x.stow(2, LIGHT, true);
        due("advise light with 20 fore: 40/40 or 0/40", 2, x.advise(2, LIGHT));
        due("advise heavy with 20 fore: 100/40 or 60/40", 2, x.advise(2, HEAVY));
        due("advise fair with 20 fore: 70/40 or 30/40", 2, x.advise(2, FAIR));
        due("advise of a kind that is not there", 0, x.beach(HEAVY));
        adviseByCutDepths();
        for (int bad : new int[] {-1, 3, 4, MIN, MAX}) {
            check.dueThrow("advise(" + bad + ", 0)", INDEX, () -> x.advise(bad, 0));
        }
        for (int bad : new int[] {-1, 3, MIN, MAX}) {
            check.dueThrow("advise(0, " + bad + ")", INDEX, () -> x.advise(0, bad));
        }
    }

    /** It goes by the depths as they are cut, not by the trims. */
    private static void adviseByCutDepths() {
        PumiceSledge x = beachWith(1, 1, 1);
        x.launch(900);
        x.stow(0, HEAVY, true);
        x.stow(0, FAIR, false);
        x.stow(0, LIGHT, false);
        due("boat(0, 3)", 10, x.boat(0, 3));
        due("advise light with a trim of 10: 30/40 or 10/40", 1, x.advise(0, LIGHT));
        due("advise fair with a trim of 10: 60/40 or 40/40", 1, x.advise(0, FAIR));
        due("advise heavy with a trim of 10: 90/40 or 70/40", 2, x.advise(0, HEAVY));
    }

    private static void promise19Foresee() {
        PumiceSledge x = beachWith(1, 0, 1);
        sledgeWith(x, 4, 1);
        sledgeWith(x, 2, 0);
        sledgeWith(x, 3, 0);
        x.setGust((x.count(0) + 1) % 8, 9);
        x.go(1);
        x.go(2);
        long before = x.digest();
        int[] aboard = {9, 8, 8, 7, 7, 3, 3};
        int[] beach = {2, 2, 2, 3, 3, 7, 7};
        int[] lost = {0, 1, 1, 1, 1, 1, 1};
        int[] hours = {1, 2, 3, 4, 5, 6, 60};
        for (int i = 0; i < hours.length; i++) {
            due("foresee(" + hours[i] + ", 5)", aboard[i], x.foresee(hours[i], 5));
            due("foresee(" + hours[i] + ", 6)", beach[i], x.foresee(hours[i], 6));
            due("foresee(" + hours[i] + ", 7)", lost[i], x.foresee(hours[i], 7));
        }
        due("digest() behind foresee", before, x.digest());
        x.pass(6);
        due("count(5) then", 3, x.count(5));
        due("count(6) then", 7, x.count(6));
        due("count(7) then", 1, x.count(7));
        due("foresee(1, 7): those of before count too", 1, x.foresee(1, 7));
        x.pass(20);
        x.fill(0, 0);
        due("foresee(1, 5): the first sledge too", 4, x.foresee(1, 5));
        for (int bad : new int[] {-1, 0, 61, MIN, MAX}) {
            check.dueThrow("foresee(" + bad + ", 5)", ARGUMENT, () -> x.foresee(bad, 5));
            check.dueThrow("foresee(" + bad + ", 4)", ARGUMENT, () -> x.foresee(bad, 4));
        }
        for (int bad : new int[] {-1, 0, 4, 8, MIN, MAX}) {
            check.dueThrow("foresee(1, " + bad + ")", INDEX, () -> x.foresee(1, bad));
        }
    }

    private static void promise20Mean() {
        PumiceSledge x = slope();
        check.due("mean() without sledges", 0.0, x.mean());
        sledgeWith(x, 0, 0);
        check.due("mean() without sacks", 0.0, x.mean());
        x.fill(0, 0);
        check.due("mean() of 30", 30.0, x.mean());
        sledgeWith(x, 1, 2);
        check.due("mean() of 30, 90", 60.0, x.mean());
        x.fill(1, 2);
        check.due("mean() of 30, 90, 90", 70.0, x.mean());
        x.set(3, 10, 1);
        x.fill(1, 3);
        check.due("mean() of 30, 90, 90, 10", 55.0, x.mean());
        x.fill(0, 0);
        x.fill(0, 0);
        check.due("mean() of 280 in 6", 280.0 / 6, x.mean());
        x.go(0);
        x.go(1);
        x.pass(20);
        check.due("mean() with all on the beach", 0.0, x.mean());
    }

    private static void promise21Digest() {
        PumiceSledge x = new PumiceSledge();
        long[] fresh = {
            0, 0, 0, 0, 0, 0, 0, 0, 500, 0, 0, 0, 0, 0, 0, 0, 0,
            100, 5, 1, 10, 100, 5, 1, 10, 100, 5, 1, 10, 100, 5, 1, 10, 100, 5, 1, 10,
            0, 0, 0,
        };
        due("digest() of a new object", sum(fresh), x.digest());
        x.set(0, 25, 2);
        x.set(4, 0, 9);
        x.setGust(0, 3);
        x.setGust(7, 9);
        x.build(2);
        x.build(3);
        x.fill(1, 0);
        x.fill(1, 1);
        x.launch(150);
        long[] full = {
            0, 3, 2, 1, 0, 2, 0, 0, 305, 3, 0, 0, 0, 0, 0, 0, 9,
            15, 2, 2, 1, 90, 5, 1, 9, 100, 5, 1, 10, 100, 5, 1, 10, 0, 9, 0, 0,
            2, 0, 20, 0, 0, -1,
            3, 2, 20, 0, 70, 1, 20, 50,
            150, 0, 0, 0, 0, 1, 150,
            0, 0, 0,
        };
        due("digest() with sledges and a boat", sum(full), x.digest());
        x.go(1);
        x.pass(5);
        x.stow(0, FAIR, false);
        long[] later = {
            5, 0, 2, 1, 0, 0, 1, 0, 305, 3, 0, 0, 0, 0, 0, 0, 9,
            15, 2, 2, 1, 90, 5, 1, 9, 100, 5, 1, 10, 100, 5, 1, 10, 0, 9, 0, 0,
            2, 0, 20, 0, 0, -1,
            3, 0, 0, 2, 0, -1,
            150, 0, 50, -50, 2, 1, 100,
            0, 0, 1,
        };
        due("digest() behind hours", sum(later), x.digest());
        due("digest() again", sum(later), x.digest());
    }

    /** All six sledges and all four boats are told, counted, and go through the hours. */
    private static void fullSlope() {
        PumiceSledge x = slope();
        int[] last = {LIGHT, FAIR, HEAVY, LIGHT, FAIR, HEAVY};
        for (int i = 0; i < 6; i++) {
            due("sledge " + i, i, sledgeWith(x, 3, i % 3));
            due("told(" + i + ", 5)", last[i], x.told(i, 5));
            x.go(i);
        }
        for (int i = 0; i < 4; i++) {
            due("boat " + i, i, x.launch(900));
            due("boat(" + i + ", 6)", 900, x.boat(i, 6));
        }
        check.due("mean() of six sledges", 60.0, x.mean());
        due("foresee(6, 5) of six sledges", 18, x.foresee(6, 5));
        due("foresee(7, 6) of six sledges", 18, x.foresee(7, 6));
        due("foresee(7, 5) of six sledges", 0, x.foresee(7, 5));
        due("back(5) of six sledges", 11, x.back(5));
        due("arrives(5) of six sledges", 3, x.arrives(5));
        due("pass(7) of six sledges", 18, x.pass(7));
        dueCount(x, 7, 0, 6, 4, 0, 0, 18, 0, 1520);
        for (int i = 0; i < 4; i++) {
            due("stow of boat " + i, 80, x.stow(i, HEAVY, true));
        }
        StringBuilder told = new StringBuilder("7 0 6 4 0 0 14 0 1520 0 0 0 0 0 0 0 0");
        told.append(" 440 3 2 44 440 6 1 44 440 9 0 44 100 5 1 10 100 5 1 10");
        for (int i = 0; i < 6; i++) {
            told.append(" 8 0 0 2 0 -1");
        }
        for (int i = 0; i < 4; i++) {
            told.append(" 900 80 0 80 3 1 820");
        }
        told.append(" 2 6 6");
        due("digest() of a full slope", sum(numbers(told.toString())), x.digest());
    }

    private static long[] numbers(String text) {
        String[] words = text.split(" ");
        long[] numbers = new long[words.length];
        for (int i = 0; i < words.length; i++) {
            numbers[i] = Long.parseLong(words[i]);
        }
        return numbers;
    }

    private static long sum(long[] numbers) {
        long d = 1321;
        for (long x : numbers) {
            d = d * 31 + x;
        }
        return d;
    }
}
