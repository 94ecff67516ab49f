/** The boundary cases of boats: their load, their trim and depth, sailing, and where to stow. */
public final class BoatEdgesTest extends EdgeTests {
    private static final boolean FORE = true;
    private static final boolean AFT = false;

    public static void main(String[] args) {
        runAll(BoatEdgesTest.class);
    }

    private void launchFour() {
        for (int i = 0; i < 4; i++) {
            x.launch(900);
        }
    }

    /** A slope with enough of all kinds on the beach, and one boat. */
    private void boatFor(int load) {
        x = beachWith(8, 8, 8);
        x.launch(load);
    }

    private void stow(int sacks, int kind, boolean isFore) {
        for (int i = 0; i < sacks; i++) {
            x.stow(0, kind, isFore);
        }
    }

    @Edge("launch: a load of 100 to 900, the least")
    void launchTakes100() {
        due("launch(100)", 0, x.launch(100));
        dueBoat(0, 100, 0, 0, 0, 0, 1, 100);
    }

    @Edge("launch: a load of 100 to 900, the greatest")
    void launchTakes900() {
        due("launch(900)", 0, x.launch(900));
        dueBoat(0, 900, 0, 0, 0, 0, 1, 900);
    }

    @Edge("launch: IllegalArgumentException if load is not 100 to 900")
    void launchRefusesOtherLoads() {
        refusedOutside(100, 900, "launch(#)", ARGUMENT, load -> x.launch(load));
        refused("launch(0)", ARGUMENT, () -> x.launch(0));
        due("launch(500): the first still has the number 0", 0, x.launch(500));
        refusedOutside(100, 900, "launch(#)", ARGUMENT, load -> x.launch(load));
        due("count(3)", 1, x.count(3));
    }

    @Edge("Boats: at most 4, numbered likewise")
    void fourBoatsMayBeLaunched() {
        for (int i = 0; i < 4; i++) {
            due("count(3)", i, x.count(3));
            due("launch(" + (100 + i) + ")", i, x.launch(100 + i));
        }
        due("count(3)", 4, x.count(3));
        for (int i = 0; i < 4; i++) {
            dueBoat(i, 100 + i, 0, 0, 0, 0, 1, 100 + i);
        }
    }

    @Edge("launch: IllegalStateException if there are 4")
    void launchRefusesAFifth() {
        launchFour();
        refused("launch(100)", STATE, () -> x.launch(100));
        refused("launch(900)", STATE, () -> x.launch(900));
        due("count(3)", 4, x.count(3));
        refused("boat(4, 0)", INDEX, () -> x.boat(4, 0));
    }

    @Edge("launch: of several exceptions the one that is named first")
    void launchNamesTheLoadFirst() {
        launchFour();
        refusedOutside(100, 900, "launch(#), the fifth", ARGUMENT, load -> x.launch(load));
    }

    @Edge("stow: IndexOutOfBoundsException if there is no such boat")
    void stowRefusesNoSuchBoat() {
        x = beachWith(8, 0, 0);
        refusedOutside(0, -1, "stow(#) without any", INDEX, n -> x.stow(n, HEAVY, FORE));
        x.launch(900);
        due("stow(0, 0, true)", 80, x.stow(0, HEAVY, FORE));
        refusedOutside(0, 0, "stow(#) with one", INDEX, n -> x.stow(n, HEAVY, AFT));
        for (int i = 1; i < 4; i++) {
            x.launch(900);
        }
        due("stow(3, 0, false)", -80, x.stow(3, HEAVY, AFT));
        dueBoat(3, 900, 0, 80, -80, 3, 1, 820);
        refusedOutside(0, 3, "stow(#) with four", INDEX, n -> x.stow(n, HEAVY, FORE));
    }

    @Edge("stow: IndexOutOfBoundsException if kind is not 0 to 2")
    void stowRefusesOtherKinds() {
        boatFor(900);
        refusedOutside(0, 2, "stow(0, #, true)", INDEX, kind -> x.stow(0, kind, FORE));
        refusedOutside(0, 2, "stow(0, #, false)", INDEX, kind -> x.stow(0, kind, AFT));
    }

    @Edge("sail: IndexOutOfBoundsException if there is no such boat")
    void sailRefusesNoSuchBoat() {
        refusedOutside(0, -1, "sail(#) without any", INDEX, n -> x.sail(n));
        x.launch(900);
        due("sail(0)", 0, x.sail(0));
        refusedOutside(0, 0, "sail(#) with one", INDEX, n -> x.sail(n));
        for (int i = 1; i < 4; i++) {
            x.launch(900);
        }
        due("sail(3)", 0, x.sail(3));
        refusedOutside(0, 3, "sail(#) with four", INDEX, n -> x.sail(n));
    }

    @Edge("boat: IndexOutOfBoundsException if there is no such boat")
    void boatRefusesNoSuchBoat() {
        refusedOutside(0, -1, "boat(#, 0) without any", INDEX, n -> x.boat(n, 0));
        x.launch(900);
        due("boat(0, 0)", 900, x.boat(0, 0));
        refusedOutside(0, 0, "boat(#, 6) with one", INDEX, n -> x.boat(n, 6));
        for (int i = 1; i < 4; i++) {
            x.launch(900 - i);
        }
        due("boat(3, 0)", 897, x.boat(3, 0));
        refusedOutside(0, 3, "boat(#, 0) with four", INDEX, n -> x.boat(n, 0));
    }

    @Edge("boat: IndexOutOfBoundsException if what is not 0 to 6")
    void boatRefusesOtherWhats() {
        boatFor(900);
        stow(2, HEAVY, FORE);
        refusedOutside(0, 6, "boat(0, #)", INDEX, what -> x.boat(0, what));
    }

    @Edge("advise: IndexOutOfBoundsException if there is no such boat")
    void adviseRefusesNoSuchBoat() {
        refusedOutside(0, -1, "advise(#, 0) without any", INDEX, n -> x.advise(n, HEAVY));
        x.launch(900);
        due("advise(0, 0)", 1, x.advise(0, HEAVY));
        refusedOutside(0, 0, "advise(#, 2) with one", INDEX, n -> x.advise(n, LIGHT));
        for (int i = 1; i < 4; i++) {
            x.launch(900);
        }
        due("advise(3, 0)", 1, x.advise(3, HEAVY));
        refusedOutside(0, 3, "advise(#, 0) with four", INDEX, n -> x.advise(n, HEAVY));
    }

    @Edge("advise: IndexOutOfBoundsException if kind is not 0 to 2")
    void adviseRefusesOtherKinds() {
        x.launch(900);
        refusedOutside(0, 2, "advise(0, #)", INDEX, kind -> x.advise(0, kind));
    }

    @Edge("Stowing: a light sack weighs 20, a fair one 50, a heavy one 80 there")
    void sacksWeighByTheirKind() {
        boatFor(900);
        int[] weights = {80, 50, 20};
        for (int kind = 0; kind < 3; kind++) {
            due("stow(0, " + kind + ", true)", weights[kind], x.stow(0, kind, FORE));
            due("boat(0, 1)", weights[kind], x.boat(0, 1));
            due("stow(0, " + kind + ", false)", 0, x.stow(0, kind, AFT));
            due("boat(0, 2)", weights[kind], x.boat(0, 2));
            due("sail(0)", 2 * weights[kind] / 10 * 3, x.sail(0));
        }
    }

    @Edge("Stowing: kind 0 is on the beach by a weight of 70 or more, not by what it weighs there")
    void sacksWeighTheSameInTheirKind() {
        x.set(0, 100, 7);
        x.set(1, 100, 4);
        x.set(2, 100, 1);
        x.build(3);
        for (int layer = 0; layer < 3; layer++) {
            x.fill(0, layer);
        }
        x.go(0);
        x.pass(20);
        x.launch(900);
        due("stow of 70", 80, x.stow(0, HEAVY, FORE));
        due("stow of 40", 130, x.stow(0, FAIR, FORE));
        due("stow of 10", 150, x.stow(0, LIGHT, FORE));
    }

    @Edge("stow: IllegalStateException if there is no such sack on the beach: none of any kind")
    void stowRefusesWithAnEmptyBeach() {
        x.launch(900);
        for (int kind = 0; kind < 3; kind++) {
            int empty = kind;
            refused("stow(0, " + kind + ", true)", STATE, () -> x.stow(0, empty, FORE));
            refused("stow(0, " + kind + ", false)", STATE, () -> x.stow(0, empty, AFT));
        }
    }

    @Edge("stow: IllegalStateException if there is no such sack on the beach: only of other kinds")
    void stowRefusesWithOtherKindsOnTheBeach() {
        for (int kind = 0; kind < 3; kind++) {
            int missing = kind;
            x = beachWith(kind == 0 ? 0 : 1, kind == 1 ? 0 : 1, kind == 2 ? 0 : 1);
            x.launch(900);
            refused("stow(0, " + kind + ", true)", STATE, () -> x.stow(0, missing, FORE));
            refused("stow(0, " + kind + ", false)", STATE, () -> x.stow(0, missing, AFT));
        }
    }

    @Edge("stow: the last sack of its kind is taken from the beach, and then there is none")
    void stowTakesTheLastSack() {
        x = beachWith(1, 2, 1);
        x.launch(900);
        due("stow(0, 2, true)", 20, x.stow(0, LIGHT, FORE));
        dueBeach(1, 2, 0);
        refused("stow(0, 2, true) again", STATE, () -> x.stow(0, LIGHT, FORE));
        due("stow(0, 0, false)", -60, x.stow(0, HEAVY, AFT));
        dueBeach(0, 2, 0);
        refused("stow(0, 0, false) again", STATE, () -> x.stow(0, HEAVY, AFT));
        due("stow(0, 1, true)", -10, x.stow(0, FAIR, FORE));
        dueBeach(0, 1, 0);
        due("stow(0, 1, true)", 40, x.stow(0, FAIR, FORE));
        dueBeach(0, 0, 0);
        refused("stow(0, 1, true) again", STATE, () -> x.stow(0, FAIR, FORE));
    }

    @Edge("stow: a sack that is still aboard of a sledge does not lie on the beach")
    void stowRefusesASackThatIsAboard() {
        sledgeWith(x, 1, 0);
        x.launch(900);
        refused("stow(0, 1, true)", STATE, () -> x.stow(0, FAIR, FORE));
        x.go(0);
        x.pass(4);
        refused("stow(0, 1, true) an hour too early", STATE, () -> x.stow(0, FAIR, FORE));
        x.pass(1);
        due("stow(0, 1, true)", 50, x.stow(0, FAIR, FORE));
    }

    @Edge("stow: just as much as the load is stowed, fore")
    void stowForeUpToTheLoad() {
        boatFor(100);
        stow(1, HEAVY, FORE);
        due("stow(0, 2, true), to 100 of 100", 100, x.stow(0, LIGHT, FORE));
        dueBoat(0, 100, 100, 0, 100, 4, 1, 0);
        refused("stow(0, 2, true), one more", STATE, () -> x.stow(0, LIGHT, FORE));
        refused("stow(0, 2, false), one more", STATE, () -> x.stow(0, LIGHT, AFT));
    }

    @Edge("stow: just as much as the load is stowed, aft")
    void stowAftUpToTheLoad() {
        boatFor(100);
        stow(1, HEAVY, AFT);
        due("stow(0, 2, false), to 100 of 100", -100, x.stow(0, LIGHT, AFT));
        dueBoat(0, 100, 0, 100, -100, 4, 1, 0);
        refused("stow(0, 2, false), one more", STATE, () -> x.stow(0, LIGHT, AFT));
        refused("stow(0, 2, true), one more", STATE, () -> x.stow(0, LIGHT, FORE));
    }

    @Edge("stow: the load is that of both sides together")
    void stowOnBothSidesUpToTheLoad() {
        boatFor(160);
        stow(1, HEAVY, FORE);
        due("stow(0, 0, false), to 160 of 160", 0, x.stow(0, HEAVY, AFT));
        dueBoat(0, 160, 80, 80, 0, 3, 1, 0);
        refused("stow(0, 2, true), one more", STATE, () -> x.stow(0, LIGHT, FORE));
        refused("stow(0, 2, false), one more", STATE, () -> x.stow(0, LIGHT, AFT));
    }

    /** With 100 stowed, a sack is refused by one too little room, and stowed by just enough. */
    private void dueJustRoom(int kind, int weight) {
        boatFor(100 + weight - 1);
        stow(2, FAIR, FORE);
        refused("stow(0, " + kind + ", true)", STATE, () -> x.stow(0, kind, FORE));
        refused("stow(0, " + kind + ", false)", STATE, () -> x.stow(0, kind, AFT));
        dueUnchanged("advise(0, " + kind + ")", 0, () -> x.advise(0, kind));
        boatFor(100 + weight);
        stow(2, FAIR, FORE);
        dueUnchanged("advise(0, " + kind + ")", 2, () -> x.advise(0, kind));
        due("stow(0, " + kind + ", false)", 100 - weight, x.stow(0, kind, AFT));
        due("boat(0, 6)", 0, x.boat(0, 6));
    }

    @Edge("stow: IllegalStateException if the boat would have more than its load: by a heavy sack")
    void stowOfAHeavySackAndTheLoad() {
        dueJustRoom(HEAVY, 80);
    }

    @Edge("stow: IllegalStateException if the boat would have more than its load: by a fair sack")
    void stowOfAFairSackAndTheLoad() {
        dueJustRoom(FAIR, 50);
    }

    @Edge("stow: IllegalStateException if the boat would have more than its load: by a light sack")
    void stowOfALightSackAndTheLoad() {
        dueJustRoom(LIGHT, 20);
    }

    @Edge("stow: the greatest boat carries 900, and no more")
    void stowUpTo900() {
        x = beachWith(10, 2, 1);
        x.launch(900);
        for (int i = 0; i < 10; i++) {
            x.stow(0, HEAVY, i % 2 == 0);
        }
        stow(1, FAIR, FORE);
        due("stow(0, 1, false), to 900 of 900", 0, x.stow(0, FAIR, AFT));
        dueBoat(0, 900, 450, 450, 0, 18, 1, 0);
        refused("stow(0, 2, true), one more", STATE, () -> x.stow(0, LIGHT, FORE));
    }

    @Edge("stow: of several exceptions the one that is named first")
    void stowNamesNumbersFirst() {
        x.launch(100);
        refused("stow(0, 3, true) with an empty beach", INDEX, () -> x.stow(0, 3, FORE));
        refused("stow(1, 0, true) with an empty beach", INDEX, () -> x.stow(1, HEAVY, FORE));
        x = beachWith(2, 0, 0);
        x.launch(100);
        stow(1, HEAVY, FORE);
        refused("stow(0, -1, true) of a full boat", INDEX, () -> x.stow(0, -1, FORE));
        refused("stow(-1, 0, true)", INDEX, () -> x.stow(-1, HEAVY, FORE));
    }

    @Edge("stow: Returns the trim then: above 0, 0, and below")
    void stowReturnsTheTrim() {
        boatFor(900);
        due("stow(0, 2, true)", 20, x.stow(0, LIGHT, FORE));
        due("stow(0, 2, false)", 0, x.stow(0, LIGHT, AFT));
        due("stow(0, 2, false)", -20, x.stow(0, LIGHT, AFT));
        due("stow(0, 0, false)", -100, x.stow(0, HEAVY, AFT));
        due("stow(0, 1, true)", -50, x.stow(0, FAIR, FORE));
    }

    @Edge("Depth: the weights added, / 50: 40 is less than one, 90 less than two")
    void depthByTheWeights() {
        boatFor(900);
        due("boat(0, 4) with 0", 0, x.boat(0, 4));
        stow(1, LIGHT, FORE);
        stow(1, LIGHT, AFT);
        dueBoat(0, 900, 20, 20, 0, 0, 1, 860);
        stow(1, LIGHT, FORE);
        stow(1, LIGHT, AFT);
        dueBoat(0, 900, 40, 40, 0, 1, 1, 820);
        x.sail(0);
        stow(1, FAIR, FORE);
        stow(1, LIGHT, AFT);
        stow(1, LIGHT, AFT);
        dueBoat(0, 900, 50, 40, 10, 1, 1, 810);
        x.sail(0);
        stow(1, FAIR, FORE);
        stow(1, FAIR, AFT);
        dueBoat(0, 900, 50, 50, 0, 2, 1, 800);
    }

    @Edge("Depth: as much as the trim differs from 0 / 40: 30 is less than one, 40 is one")
    void depthByATrimOf30And40() {
        boatFor(900);
        stow(1, FAIR, FORE);
        stow(1, LIGHT, AFT);
        dueBoat(0, 900, 50, 20, 30, 1, 1, 830);
        x.sail(0);
        stow(2, LIGHT, FORE);
        dueBoat(0, 900, 40, 0, 40, 1, 1, 860);
    }

    @Edge("Depth: as much as the trim differs from 0 / 40: -30 is less than one, -40 is one")
    void depthByATrimOfMinus30AndMinus40() {
        boatFor(900);
        stow(1, FAIR, AFT);
        stow(1, LIGHT, FORE);
        dueBoat(0, 900, 20, 50, -30, 1, 1, 830);
        x.sail(0);
        stow(2, LIGHT, AFT);
        dueBoat(0, 900, 0, 40, -40, 1, 1, 860);
    }

    /** All the weight, of heavy sacks and one fair one, lies on one side. */
    private void dueDepthOfOneSide(int heavy, boolean isFore, int weight, int depth) {
        x = beachWith(heavy, 1, 0);
        x.launch(900);
        stow(heavy, HEAVY, isFore);
        due("stow(0, 1)", isFore ? weight : -weight, x.stow(0, FAIR, isFore));
        due("boat(0, 4) with a weight of " + weight, depth, x.boat(0, 4));
        due("boat(0, 5) with a weight of " + weight, 0, x.boat(0, 5));
    }

    @Edge("Depth: as deep as a boat can be: all of its weight on one side")
    void depthOfOneSide() {
        dueDepthOfOneSide(4, FORE, 370, 16);
        dueDepthOfOneSide(4, AFT, 370, 16);
        dueDepthOfOneSide(10, FORE, 850, 38);
        dueDepthOfOneSide(10, AFT, 850, 38);
        x = beachWith(10, 2, 0);
        x.launch(900);
        stow(10, HEAVY, FORE);
        stow(2, FAIR, FORE);
        dueBoat(0, 900, 900, 0, 900, 40, 0, 0);
    }

    @Edge("Depth: a trim of 390 is just less than ten times 40")
    void depthByATrimOf390() {
        boatFor(900);
        stow(3, HEAVY, FORE);
        stow(3, FAIR, FORE);
        dueBoat(0, 900, 390, 0, 390, 16, 0, 510);
        stow(1, LIGHT, FORE);
        stow(1, LIGHT, FORE);
        stow(1, LIGHT, AFT);
        stow(1, LIGHT, AFT);
        dueBoat(0, 900, 430, 40, 390, 18, 0, 430);
    }

    @Edge("Depth: both are cut towards 0, and added then")
    void depthAddsWhatIsCut() {
        boatFor(900);
        stow(1, HEAVY, FORE);
        stow(1, FAIR, AFT);
        stow(3, LIGHT, FORE);
        stow(3, LIGHT, AFT);
        dueBoat(0, 900, 140, 110, 30, 5, 1, 650);
        stow(2, LIGHT, FORE);
        dueBoat(0, 900, 180, 110, 70, 6, 1, 610);
        x.sail(0);
        stow(1, FAIR, FORE);
        stow(1, HEAVY, AFT);
        stow(1, FAIR, AFT);
        stow(1, FAIR, FORE);
        dueBoat(0, 900, 100, 130, -30, 4, 1, 670);
    }

    @Edge("Sailing: whose trim is -100 to 100 can sail, the greatest")
    void sailWithATrimOf100() {
        boatFor(900);
        stow(2, FAIR, FORE);
        dueBoat(0, 900, 100, 0, 100, 4, 1, 800);
        due("sail(0)", 30, x.sail(0));
    }

    @Edge("Sailing: whose trim is -100 to 100 can sail, the next one above cannot")
    void sailRefusesATrimOf110() {
        boatFor(900);
        stow(1, HEAVY, FORE);
        stow(1, FAIR, FORE);
        stow(1, LIGHT, AFT);
        dueBoat(0, 900, 130, 20, 110, 5, 0, 750);
        refused("sail(0)", STATE, () -> x.sail(0));
        stow(1, LIGHT, AFT);
        dueBoat(0, 900, 130, 40, 90, 5, 1, 730);
        due("sail(0) when it is trimmed", 51, x.sail(0));
    }

    @Edge("Sailing: whose trim is -100 to 100 can sail, the least")
    void sailWithATrimOfMinus100() {
        boatFor(900);
        stow(2, FAIR, AFT);
        dueBoat(0, 900, 0, 100, -100, 4, 1, 800);
        due("sail(0)", 30, x.sail(0));
    }

    @Edge("Sailing: whose trim is -100 to 100 can sail, the next one below cannot")
    void sailRefusesATrimOfMinus110() {
        boatFor(900);
        stow(1, HEAVY, AFT);
        stow(1, FAIR, AFT);
        stow(1, LIGHT, FORE);
        dueBoat(0, 900, 20, 130, -110, 5, 0, 750);
        refused("sail(0)", STATE, () -> x.sail(0));
        stow(1, LIGHT, FORE);
        dueBoat(0, 900, 40, 130, -90, 5, 1, 730);
        due("sail(0) when it is trimmed", 51, x.sail(0));
    }

    @Edge("Sailing: whose depth is 20 or less can sail, the greatest, with the trim 100")
    void sailWithADepthOf20() {
        x = beachWith(5, 10, 0);
        x.launch(900);
        stow(10, FAIR, FORE);
        stow(5, HEAVY, AFT);
        dueBoat(0, 900, 500, 400, 100, 20, 1, 0);
        due("sail(0)", 270, x.sail(0));
        dueBoat(0, 900, 0, 0, 0, 0, 1, 900);
    }

    @Edge("Sailing: whose depth is 20 or less can sail, the greatest, with the trim -100")
    void sailWithADepthOf20AndATrimOfMinus100() {
        x = beachWith(5, 10, 0);
        x.launch(900);
        stow(5, HEAVY, FORE);
        stow(10, FAIR, AFT);
        dueBoat(0, 900, 400, 500, -100, 20, 1, 0);
        due("sail(0)", 270, x.sail(0));
    }

    @Edge("sail: IllegalStateException if it cannot: too deep, and out of trim with it")
    void sailRefusesABoatThatIsTooDeep() {
        x = beachWith(8, 0, 0);
        x.launch(900);
        stow(6, HEAVY, FORE);
        dueBoat(0, 900, 480, 0, 480, 21, 0, 420);
        refused("sail(0) with a depth of 21", STATE, () -> x.sail(0));
        stow(2, HEAVY, FORE);
        dueBoat(0, 900, 640, 0, 640, 28, 0, 260);
        refused("sail(0) with a depth of 28", STATE, () -> x.sail(0));
    }

    @Edge("Sailing: an empty boat can sail, and brings nothing")
    void sailOfAnEmptyBoat() {
        x.launch(100);
        dueUnchanged("sail(0)", 0, () -> x.sail(0));
        due("count(4)", 0, x.count(4));
    }

    @Edge("Sailing: for each weight of 10, of all of it, 3 coins: the least that is stowed")
    void sailOfOneLightSack() {
        boatFor(100);
        stow(1, LIGHT, AFT);
        due("sail(0)", 6, x.sail(0));
        due("count(4)", 6, x.count(4));
    }

    @Edge("Sailing: and comes back empty at once: it is stowed, full, and sails anew")
    void boatIsEmptyBehindSailing() {
        boatFor(160);
        stow(1, HEAVY, FORE);
        stow(1, HEAVY, AFT);
        refused("stow(0, 2, true) of a full boat", STATE, () -> x.stow(0, LIGHT, FORE));
        due("sail(0)", 48, x.sail(0));
        dueBoat(0, 160, 0, 0, 0, 0, 1, 160);
        due("stow(0, 0, true)", 80, x.stow(0, HEAVY, FORE));
        due("stow(0, 0, false)", 0, x.stow(0, HEAVY, AFT));
        refused("stow(0, 2, true) of a full boat", STATE, () -> x.stow(0, LIGHT, FORE));
        due("sail(0)", 48, x.sail(0));
        due("count(4): coins of both", 96, x.count(4));
        dueBeach(4, 8, 8);
    }

    @Edge("sail: one boat sails, and no other comes back empty")
    void sailLeavesOtherBoats() {
        x = beachWith(4, 0, 0);
        launchFour();
        for (int i = 0; i < 4; i++) {
            x.stow(i, HEAVY, FORE);
        }
        due("sail(2)", 24, x.sail(2));
        for (int i = 0; i < 4; i++) {
            due("boat(" + i + ", 1)", i == 2 ? 0 : 80, x.boat(i, 1));
        }
    }

    @Edge("advise: of both as deep fore: an empty boat, with each kind")
    void adviseForAnEmptyBoat() {
        x.launch(100);
        for (int kind = 0; kind < 3; kind++) {
            int asked = kind;
            dueUnchanged("advise(0, " + kind + ")", 1, () -> x.advise(0, asked));
        }
    }

    @Edge("advise: whether there is one or not")
    void adviseWithAnEmptyBeach() {
        x = beachWith(1, 0, 0);
        x.launch(900);
        stow(1, HEAVY, FORE);
        dueBeach(0, 0, 0);
        for (int kind = 0; kind < 3; kind++) {
            int asked = kind;
            dueUnchanged("advise(0, " + kind + ")", 2, () -> x.advise(0, asked));
        }
    }

    @Edge("advise: 1 fore, by which the boat would be less deep")
    void adviseFore() {
        boatFor(900);
        stow(1, HEAVY, AFT);
        for (int kind = 0; kind < 3; kind++) {
            int asked = kind;
            dueUnchanged("advise(0, " + kind + ")", 1, () -> x.advise(0, asked));
        }
    }

    @Edge("advise: as deep fore and aft goes by the depths, which are cut, not by the trims")
    void adviseByDepthsAsTheyAreCut() {
        boatFor(900);
        stow(3, LIGHT, FORE);
        stow(1, FAIR, AFT);
        due("boat(0, 3)", 10, x.boat(0, 3));
        dueUnchanged("advise(0, 2): 30 / 40 and 10 / 40", 1, () -> x.advise(0, LIGHT));
        dueUnchanged("advise(0, 1): 60 / 40 and 40 / 40", 1, () -> x.advise(0, FAIR));
        dueUnchanged("advise(0, 0): 90 / 40 and 70 / 40", 2, () -> x.advise(0, HEAVY));
    }

    @Edge("advise: 2 aft, by which the boat would be less deep, from the first trim that shows it")
    void adviseAftFromATrimOf20() {
        boatFor(900);
        stow(1, LIGHT, FORE);
        due("boat(0, 3)", 20, x.boat(0, 3));
        dueUnchanged("advise(0, 2): 40 / 40 and 0 / 40", 2, () -> x.advise(0, LIGHT));
        dueUnchanged("advise(0, 1): 70 / 40 and 30 / 40", 2, () -> x.advise(0, FAIR));
        dueUnchanged("advise(0, 0): 100 / 40 and 60 / 40", 2, () -> x.advise(0, HEAVY));
    }

    @Edge("advise: 0, if it would have more than its load: a full boat")
    void adviseForAFullBoat() {
        boatFor(100);
        stow(1, HEAVY, FORE);
        stow(1, LIGHT, AFT);
        for (int kind = 0; kind < 3; kind++) {
            int asked = kind;
            dueUnchanged("advise(0, " + kind + ")", 0, () -> x.advise(0, asked));
        }
        x.sail(0);
        dueUnchanged("advise(0, 0) of the empty boat", 1, () -> x.advise(0, HEAVY));
    }

    @Edge("advise: what is advised is what is less deep, of every boat on the way to its load")
    void adviseIsTheLessDeep() {
        boatFor(400);
        int[] kinds = {LIGHT, HEAVY, FAIR, FAIR, HEAVY, LIGHT, LIGHT, FAIR};
        int[] advised = {1, 2, 1, 1, 2, 1, 1, 1};
        int[] trims = {20, -60, -10, 40, -40, -20, 0, 50};
        for (int i = 0; i < kinds.length; i++) {
            due("advise ahead of the sack " + i, advised[i], x.advise(0, kinds[i]));
            due("stow of the sack " + i, trims[i], x.stow(0, kinds[i], advised[i] == 1));
        }
        due("boat(0, 6)", 30, x.boat(0, 6));
        due("advise(0, 0) with a room of 30", 0, x.advise(0, HEAVY));
        due("advise(0, 1) with a room of 30", 0, x.advise(0, FAIR));
        due("advise(0, 2) with a room of 30: 70 / 40 and 30 / 40", 2, x.advise(0, LIGHT));
    }
}
