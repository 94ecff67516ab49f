/** The boundary cases of layers and of the sacks that are filled from them. */
public final class LayerEdgesTest extends EdgeTests {
    public static void main(String[] args) {
        runAll(LayerEdgesTest.class);
    }

    private void dueLayer(int layer, int... want) {
        for (int what = 0; what < want.length; what++) {
            due("layer(" + layer + ", " + what + ")", want[what], x.layer(layer, what));
        }
    }

    @Edge("Layers: with 100 stones at first, and a weight of 5 for each")
    void everyLayerAtFirst() {
        for (int layer = 0; layer < 5; layer++) {
            dueLayer(layer, 100, 5, FAIR, 10);
        }
    }

    @Edge("Layers: 0 to 4, the least")
    void setTakesLayer0() {
        due("set(0, 30, 9)", 1005, x.set(0, 30, 9));
        dueLayer(0, 30, 9, HEAVY, 3);
        for (int layer = 1; layer < 5; layer++) {
            dueLayer(layer, 100, 5, FAIR, 10);
        }
    }

    @Edge("Layers: 0 to 4, the greatest")
    void setTakesLayer4() {
        due("set(4, 30, 9)", 1005, x.set(4, 30, 9));
        dueLayer(4, 30, 9, HEAVY, 3);
        for (int layer = 0; layer < 4; layer++) {
            dueLayer(layer, 100, 5, FAIR, 10);
        }
    }

    @Edge("set: IndexOutOfBoundsException if layer is not 0 to 4")
    void setRefusesOtherLayers() {
        refusedOutside(0, 4, "set(#, 10, 1)", INDEX, layer -> x.set(layer, 10, 1));
    }

    @Edge("set: stones 0 to 500, the least")
    void setTakesNoStones() {
        due("set(2, 0, 5)", 1005, x.set(2, 0, 5));
        dueLayer(2, 0, 5, FAIR, 0);
        due("set(2, 1, 5) behind it", 5, x.set(2, 1, 5));
        dueLayer(2, 1, 5, FAIR, 0);
    }

    @Edge("set: stones 0 to 500, the greatest")
    void setTakes500Stones() {
        due("set(2, 500, 5)", 1005, x.set(2, 500, 5));
        dueLayer(2, 500, 5, FAIR, 50);
        due("set(2, 499, 5) behind it", 5005, x.set(2, 499, 5));
        dueLayer(2, 499, 5, FAIR, 49);
    }

    @Edge("set: IllegalArgumentException if stones is not 0 to 500")
    void setRefusesOtherStones() {
        refusedOutside(0, 500, "set(0, #, 5)", ARGUMENT, stones -> x.set(0, stones, 5));
        refusedOutside(0, 500, "set(4, #, 1)", ARGUMENT, stones -> x.set(4, stones, 1));
    }

    @Edge("set: a weight of 1 to 9, the least")
    void setTakesWeight1() {
        due("set(3, 100, 1)", 1005, x.set(3, 100, 1));
        dueLayer(3, 100, 1, LIGHT, 10);
        due("set(3, 100, 2) behind it", 1001, x.set(3, 100, 2));
        dueLayer(3, 100, 2, LIGHT, 10);
    }

    @Edge("set: a weight of 1 to 9, the greatest")
    void setTakesWeight9() {
        due("set(3, 100, 9)", 1005, x.set(3, 100, 9));
        dueLayer(3, 100, 9, HEAVY, 10);
        due("set(3, 100, 8) behind it", 1009, x.set(3, 100, 8));
        dueLayer(3, 100, 8, HEAVY, 10);
    }

    @Edge("set: IllegalArgumentException if weight is not 1 to 9")
    void setRefusesOtherWeights() {
        refusedOutside(1, 9, "set(0, 7, #)", ARGUMENT, weight -> x.set(0, 7, weight));
        refusedOutside(1, 9, "set(4, 500, #)", ARGUMENT, weight -> x.set(4, 500, weight));
    }

    @Edge("set: of several exceptions the one that is named first")
    void setNamesTheLayerFirst() {
        refused("set(5, 501, 1)", INDEX, () -> x.set(5, 501, 1));
        refused("set(-1, 0, 10)", INDEX, () -> x.set(-1, 0, 10));
        refused("set(5, -1, 0)", INDEX, () -> x.set(5, -1, 0));
        refused("set(4, -1, 0)", ARGUMENT, () -> x.set(4, -1, 0));
    }

    @Edge("set: Returns 10 * stones + weight, as they were before: the least and the greatest")
    void setReturnsWhatWasBefore() {
        x.set(0, 0, 1);
        due("set(0, 500, 9)", 1, x.set(0, 500, 9));
        due("set(0, 500, 9) again", 5009, x.set(0, 500, 9));
        due("set(0, 0, 1)", 5009, x.set(0, 0, 1));
        x.set(1, 10, 7);
        x.build(1);
        x.fill(0, 1);
        due("set(1, 9, 9) of a layer that a sack was taken from", 7, x.set(1, 9, 9));
    }

    /** Fills one sack of a weight from the last layer and looks at its kind everywhere. */
    private void dueKindOfStones(int weight, int kind) {
        x.set(4, 10, weight);
        due("layer(4, 2) with stones of " + weight, kind, x.layer(4, 2));
        int sledge = x.build(1);
        due("fill with stones of " + weight, kind, x.fill(sledge, 4));
        dueTold(sledge, 1, 1, 20, 0, 10 * weight, kind);
        x.go(sledge);
        x.pass(9);
        due("beach(" + kind + ")", 1, x.beach(kind));
    }

    @Edge("Layers: a sack has a weight of 10 times that of a stone: the least, 10, is light")
    void sackOf10IsLight() {
        dueKindOfStones(1, LIGHT);
        dueBeach(0, 0, 1);
    }

    @Edge("Layers: it is light (2) with a weight of up to 30")
    void sackOf30IsLight() {
        dueKindOfStones(3, LIGHT);
        dueBeach(0, 0, 1);
    }

    @Edge("Layers: fair (1) begins with the next one above 30")
    void sackOf40IsFair() {
        dueKindOfStones(4, FAIR);
        dueBeach(0, 1, 0);
    }

    @Edge("Layers: fair (1) with up to 60")
    void sackOf60IsFair() {
        dueKindOfStones(6, FAIR);
        dueBeach(0, 1, 0);
    }

    @Edge("Layers: and heavy (0) with more, from the next one above 60")
    void sackOf70IsHeavy() {
        dueKindOfStones(7, HEAVY);
        dueBeach(1, 0, 0);
    }

    @Edge("Layers: the greatest weight of a sack, 90, is heavy")
    void sackOf90IsHeavy() {
        dueKindOfStones(9, HEAVY);
        dueBeach(1, 0, 0);
    }

    @Edge("Layers: a weight of 10 times that, which it keeps")
    void sackKeepsItsWeight() {
        x.build(3);
        x.set(0, 20, 3);
        due("fill(0, 0) with stones of 3", LIGHT, x.fill(0, 0));
        x.set(0, 10, 7);
        dueTold(0, 3, 1, 20, 0, 30, LIGHT);
        due("fill(0, 0) with stones of 7", HEAVY, x.fill(0, 0));
        x.set(0, 0, 4);
        dueTold(0, 3, 2, 20, 0, 100, HEAVY);
        due("mean()", 50.0, x.mean());
        x.go(0);
        x.pass(5);
        dueBeach(1, 0, 1);
        due("layer(0, 2)", FAIR, x.layer(0, 2));
    }

    @Edge("fill: a sack has 10 stones; with just 10 the layer is empty behind it")
    void fillTakesTheLastTenStones() {
        x.build(8);
        x.set(1, 10, 5);
        due("fill(0, 1)", FAIR, x.fill(0, 1));
        dueLayer(1, 0, 5, FAIR, 0);
        dueTold(0, 8, 1, 20, 0, 50, FAIR);
        refused("fill(0, 1) of the empty layer", STATE, () -> x.fill(0, 1));
    }

    @Edge("fill: IllegalStateException if the layer has fewer than 10 stones: 9")
    void fillRefusesNineStones() {
        x.build(8);
        x.set(1, 9, 5);
        refused("fill(0, 1)", STATE, () -> x.fill(0, 1));
        x.set(1, 19, 5);
        due("fill(0, 1) with 19", FAIR, x.fill(0, 1));
        due("layer(1, 0)", 9, x.layer(1, 0));
        refused("fill(0, 1) with the 9 that are left", STATE, () -> x.fill(0, 1));
    }

    @Edge("fill: IllegalStateException if the layer has fewer than 10 stones: none at all")
    void fillRefusesNoStones() {
        x.build(8);
        x.set(1, 0, 5);
        refused("fill(0, 1)", STATE, () -> x.fill(0, 1));
    }

    @Edge("fill: with 11 stones one sack is filled and one stone is left")
    void fillOfElevenStonesLeavesOne() {
        x.build(8);
        x.set(1, 11, 5);
        due("fill(0, 1)", FAIR, x.fill(0, 1));
        dueLayer(1, 1, 5, FAIR, 0);
        refused("fill(0, 1) with the one that is left", STATE, () -> x.fill(0, 1));
    }

    @Edge("fill: layer 0 to 4, the least and the greatest, and from that one alone")
    void fillTakesLayers0And4() {
        x.build(8);
        x.set(0, 100, 1);
        x.set(4, 100, 9);
        due("fill(0, 0)", LIGHT, x.fill(0, 0));
        due("fill(0, 4)", HEAVY, x.fill(0, 4));
        int[] stones = {90, 100, 100, 100, 90};
        for (int layer = 0; layer < 5; layer++) {
            due("layer(" + layer + ", 0)", stones[layer], x.layer(layer, 0));
        }
    }

    @Edge("fill: IndexOutOfBoundsException if layer is not 0 to 4")
    void fillRefusesOtherLayers() {
        x.build(8);
        refusedOutside(0, 4, "fill(0, #)", INDEX, layer -> x.fill(0, layer));
    }

    @Edge("layer: what 3, sacks that can still be filled, is cut towards 0")
    void layerTellsWholeSacks() {
        int[] stones = {0, 1, 9, 10, 11, 19, 20, 99, 100, 490, 499, 500};
        int[] sacks = {0, 0, 0, 1, 1, 1, 2, 9, 10, 49, 49, 50};
        for (int i = 0; i < stones.length; i++) {
            x.set(3, stones[i], 1);
            dueLayer(3, stones[i], 1, LIGHT, sacks[i]);
        }
    }

    @Edge("layer: what 2, the kind of its sacks, is told of an empty layer too")
    void layerTellsTheKindOfAnEmptyLayer() {
        int[] kinds = {LIGHT, LIGHT, LIGHT, FAIR, FAIR, FAIR, HEAVY, HEAVY, HEAVY};
        for (int weight = 1; weight <= 9; weight++) {
            x.set(0, 0, weight);
            dueLayer(0, 0, weight, kinds[weight - 1], 0);
        }
    }

    @Edge("layer: IndexOutOfBoundsException if layer is not 0 to 4")
    void layerRefusesOtherLayers() {
        refusedOutside(0, 4, "layer(#, 0)", INDEX, layer -> x.layer(layer, 0));
        refusedOutside(0, 4, "layer(#, 3)", INDEX, layer -> x.layer(layer, 3));
    }

    @Edge("layer: IndexOutOfBoundsException if what is not 0 to 3")
    void layerRefusesOtherWhats() {
        refusedOutside(0, 3, "layer(0, #)", INDEX, what -> x.layer(0, what));
        refusedOutside(0, 3, "layer(4, #)", INDEX, what -> x.layer(4, what));
    }
}
