/** The boundary cases of sledges: built, filled, sent down, and told of. */
public final class SledgeEdgesTest extends EdgeTests {
    public static void main(String[] args) {
        runAll(SledgeEdgesTest.class);
    }

    private void buildSix() {
        for (int i = 0; i < 6; i++) {
            x.build(i + 1);
        }
    }

    /** Has an empty sledge go down and up again, until it is going up at this height. */
    private void sendUpTo(int sledge, int height) {
        x.go(sledge);
        x.pass(5 + height / 5);
        due("told(" + sledge + ", 2)", height, x.told(sledge, 2));
        due("told(" + sledge + ", 3)", 2, x.told(sledge, 3));
    }

    @Edge("build: holds 1 to 8, the least: one sack makes it full")
    void buildHoldsOneSack() {
        due("build(1)", 0, x.build(1));
        dueTold(0, 1, 0, 20, 0, 0, -1);
        due("fill(0, 0)", FAIR, x.fill(0, 0));
        dueTold(0, 1, 1, 20, 0, 50, FAIR);
        refused("fill(0, 0), the second", STATE, () -> x.fill(0, 0));
    }

    @Edge("build: holds 1 to 8, the greatest: eight sacks make it full")
    void buildHoldsEightSacks() {
        due("build(8)", 0, x.build(8));
        for (int i = 0; i < 8; i++) {
            dueTold(0, 8, i, 20, 0, 50 * i, i == 0 ? -1 : FAIR);
            due("fill(0, 0)", FAIR, x.fill(0, 0));
        }
        dueTold(0, 8, 8, 20, 0, 400, FAIR);
        refused("fill(0, 0), the ninth", STATE, () -> x.fill(0, 0));
    }

    @Edge("build: IllegalArgumentException if holds is not 1 to 8")
    void buildRefusesOtherHolds() {
        refusedOutside(1, 8, "build(#)", ARGUMENT, holds -> x.build(holds));
        due("build(5): the first still has the number 0", 0, x.build(5));
        refusedOutside(1, 8, "build(#)", ARGUMENT, holds -> x.build(holds));
        due("count(2)", 1, x.count(2));
    }

    @Edge("Sledges: at most 6, numbered from 0 in the order of their coming")
    void sixSledgesMayBeBuilt() {
        for (int i = 0; i < 6; i++) {
            due("count(2)", i, x.count(2));
            due("build(" + (8 - i) + ")", i, x.build(8 - i));
        }
        due("count(2)", 6, x.count(2));
        for (int i = 0; i < 6; i++) {
            dueTold(i, 8 - i, 0, 20, 0, 0, -1);
        }
    }

    @Edge("build: IllegalStateException if there are 6")
    void buildRefusesASeventh() {
        buildSix();
        refused("build(1)", STATE, () -> x.build(1));
        refused("build(8)", STATE, () -> x.build(8));
        due("count(2)", 6, x.count(2));
        refused("told(6, 0)", INDEX, () -> x.told(6, 0));
    }

    @Edge("build: of several exceptions the one that is named first")
    void buildNamesHoldsFirst() {
        buildSix();
        refusedOutside(1, 8, "build(#), the seventh", ARGUMENT, holds -> x.build(holds));
    }

    @Edge("fill: IndexOutOfBoundsException if there is no such sledge")
    void fillRefusesNoSuchSledge() {
        refusedOutside(0, -1, "fill(#, 0) without any", INDEX, n -> x.fill(n, 0));
        x.build(8);
        due("fill(0, 0)", FAIR, x.fill(0, 0));
        refusedOutside(0, 0, "fill(#, 0) with one", INDEX, n -> x.fill(n, 0));
        for (int i = 1; i < 6; i++) {
            x.build(8);
        }
        due("fill(5, 0)", FAIR, x.fill(5, 0));
        dueTold(5, 8, 1, 20, 0, 50, FAIR);
        refusedOutside(0, 5, "fill(#, 0) with six", INDEX, n -> x.fill(n, 0));
    }

    @Edge("go: IndexOutOfBoundsException if there is no such sledge")
    void goRefusesNoSuchSledge() {
        refusedOutside(0, -1, "go(#) without any", INDEX, n -> x.go(n));
        x.build(8);
        due("go(0)", 0, x.go(0));
        refusedOutside(0, 0, "go(#) with one", INDEX, n -> x.go(n));
        for (int i = 1; i < 6; i++) {
            x.build(8);
        }
        due("go(5)", 0, x.go(5));
        dueTold(5, 8, 0, 20, 1, 0, -1);
        refusedOutside(0, 5, "go(#) with six", INDEX, n -> x.go(n));
    }

    @Edge("told: IndexOutOfBoundsException if there is no such sledge")
    void toldRefusesNoSuchSledge() {
        refusedOutside(0, -1, "told(#, 0) without any", INDEX, n -> x.told(n, 0));
        x.build(3);
        due("told(0, 0)", 3, x.told(0, 0));
        refusedOutside(0, 0, "told(#, 5) with one", INDEX, n -> x.told(n, 5));
        for (int i = 1; i < 6; i++) {
            x.build(8);
        }
        due("told(5, 0)", 8, x.told(5, 0));
        refusedOutside(0, 5, "told(#, 0) with six", INDEX, n -> x.told(n, 0));
    }

    @Edge("told: IndexOutOfBoundsException if what is not 0 to 5")
    void toldRefusesOtherWhats() {
        x.build(3);
        x.fill(0, 0);
        refusedOutside(0, 5, "told(0, #)", INDEX, what -> x.told(0, what));
    }

    @Edge("fill: IllegalStateException if the sledge is full, once more behind a way down and up")
    void fillRefusesAFullSledgeAgain() {
        x.build(2);
        x.fill(0, 0);
        x.fill(0, 0);
        refused("fill(0, 1) of a full one", STATE, () -> x.fill(0, 1));
        x.go(0);
        x.pass(9);
        dueTold(0, 2, 0, 20, 0, 0, -1);
        due("fill(0, 1) of the empty one", FAIR, x.fill(0, 1));
        due("fill(0, 1) of the last that it holds", FAIR, x.fill(0, 1));
        refused("fill(0, 1) of a full one again", STATE, () -> x.fill(0, 1));
    }

    @Edge("fill: IllegalStateException if the sledge does not stand: it is to go down, at the top")
    void fillRefusesASledgeAtTheTopThatGoesDown() {
        x.build(8);
        x.go(0);
        dueTold(0, 8, 0, 20, 1, 0, -1);
        refused("fill(0, 0)", STATE, () -> x.fill(0, 0));
    }

    @Edge("fill: IllegalStateException if the sledge does not stand: it goes down")
    void fillRefusesASledgeThatGoesDown() {
        x.build(8);
        x.go(0);
        for (int height = 16; height > 0; height -= 4) {
            x.pass(1);
            dueTold(0, 8, 0, height, 1, 0, -1);
            refused("fill(0, 0) at the height " + height, STATE, () -> x.fill(0, 0));
        }
    }

    @Edge("fill: IllegalStateException if the sledge does not stand: it goes up")
    void fillRefusesASledgeThatGoesUp() {
        x.build(8);
        sendUpTo(0, 0);
        for (int height = 0; height < 20; height += 5) {
            dueTold(0, 8, 0, height, 2, 0, -1);
            refused("fill(0, 0) at the height " + height, STATE, () -> x.fill(0, 0));
            x.pass(1);
        }
        due("fill(0, 0) when it stands again", FAIR, x.fill(0, 0));
    }

    @Edge("fill: of several exceptions the one that is named first")
    void fillNamesNumbersFirst() {
        x.build(1);
        x.fill(0, 0);
        refused("fill(0, 5) of a full one", INDEX, () -> x.fill(0, 5));
        x.go(0);
        refused("fill(0, -1) of one that goes down", INDEX, () -> x.fill(0, -1));
        x.set(0, 0, 5);
        refused("fill(1, 0) of no sledge and no stones", INDEX, () -> x.fill(1, 0));
        refused("fill(0, 0) of one that goes down, full, and no stones", STATE, () -> x.fill(0, 0));
    }

    @Edge("go: Returns how many sacks are aboard: none")
    void goWithoutSacks() {
        x.build(8);
        due("go(0)", 0, x.go(0));
        dueTold(0, 8, 0, 20, 1, 0, -1);
    }

    @Edge("go: Returns how many sacks are aboard: as many as a sledge can hold")
    void goWithEightSacks() {
        sledgeWith(x, 8, 0);
        due("go(0)", 8, x.go(0));
        dueTold(0, 8, 8, 20, 1, 400, FAIR);
    }

    @Edge("go: IllegalStateException if it does not stand: it goes down")
    void goRefusesASledgeThatGoesDown() {
        x.build(8);
        x.go(0);
        for (int height = 20; height > 0; height -= 4) {
            dueTold(0, 8, 0, height, 1, 0, -1);
            refused("go(0) at the height " + height, STATE, () -> x.go(0));
            x.pass(1);
        }
    }

    @Edge("go: IllegalStateException if it does not stand: it goes up")
    void goRefusesASledgeThatGoesUp() {
        x.build(8);
        sendUpTo(0, 0);
        for (int height = 0; height < 20; height += 5) {
            dueTold(0, 8, 0, height, 2, 0, -1);
            refused("go(0) at the height " + height, STATE, () -> x.go(0));
            x.pass(1);
        }
        due("go(0) when it stands again", 0, x.go(0));
        dueTold(0, 8, 0, 20, 1, 0, -1);
    }

    @Edge("go: has one sledge go down, and no other")
    void goLeavesOthersStanding() {
        buildSix();
        x.go(3);
        for (int i = 0; i < 6; i++) {
            due("told(" + i + ", 3)", i == 3 ? 1 : 0, x.told(i, 3));
        }
        x.pass(60);
        for (int i = 0; i < 6; i++) {
            due("told(" + i + ", 2)", 20, x.told(i, 2));
        }
    }

    @Edge("told: what 5, the kind of the last one, -1 without any: never filled")
    void toldOfASledgeNeverFilled() {
        x.build(8);
        due("told(0, 5)", -1, x.told(0, 5));
        due("told(0, 4)", 0, x.told(0, 4));
    }

    @Edge("told: what 5, the kind of the last one, -1 without any: unloaded")
    void toldOfAnUnloadedSledge() {
        sledgeWith(x, 1, 0);
        due("told(0, 5)", FAIR, x.told(0, 5));
        x.go(0);
        x.pass(5);
        due("told(0, 5)", -1, x.told(0, 5));
        due("told(0, 4)", 0, x.told(0, 4));
    }

    @Edge("told: what 5, the kind of the last one, -1 without any: the only one fell off")
    void toldOfASledgeThatLostItsSack() {
        sledgeWith(x, 1, 0);
        x.setGust(0, 9);
        x.go(0);
        x.pass(1);
        dueTold(0, 8, 0, 12, 1, 0, -1);
    }

    @Edge("told: what 5 goes by the last one, in the order in which they were put there")
    void toldGoesByTheLastSack() {
        x = slope();
        x.build(8);
        int[] layers = {0, 1, 2, 1, 0, 2, 0, 1};
        int[] kinds = {LIGHT, FAIR, HEAVY, FAIR, LIGHT, HEAVY, LIGHT, FAIR};
        for (int i = 0; i < 8; i++) {
            x.fill(0, layers[i]);
            due("told(0, 5) behind " + (i + 1), kinds[i], x.told(0, 5));
        }
    }

    @Edge("told: what 4, the weight of all sacks aboard: the least and the greatest")
    void toldOfTheLeastAndTheGreatestWeight() {
        x.set(0, 500, 1);
        x.set(1, 500, 9);
        sledgeWith(x, 1, 0);
        sledgeWith(x, 8, 1);
        dueTold(0, 8, 1, 20, 0, 10, LIGHT);
        dueTold(1, 8, 8, 20, 0, 720, HEAVY);
    }

    @Edge("Sledges: what a sledge holds stays as it was built, whatever is aboard")
    void toldOfWhatItHolds() {
        for (int holds = 1; holds <= 6; holds++) {
            int sledge = x.build(holds);
            x.fill(sledge, 0);
            x.go(sledge);
        }
        x.pass(3);
        for (int holds = 1; holds <= 6; holds++) {
            due("told(" + (holds - 1) + ", 0)", holds, x.told(holds - 1, 0));
        }
    }
}
