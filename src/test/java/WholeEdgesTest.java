import java.math.BigInteger;
import java.util.ArrayList;
import java.util.List;

/** The boundary cases of the whole slope: new, empty, full, its checksum, and refused calls. */
public final class WholeEdgesTest extends EdgeTests {
    private static final BigInteger LONGS = BigInteger.ONE.shiftLeft(64);

    public static void main(String[] args) {
        runAll(WholeEdgesTest.class);
    }

    /** The checksum without a wrap-around. */
    private static BigInteger unwrapped(List<Integer> numbers) {
        BigInteger d = BigInteger.valueOf(1321);
        for (int number : numbers) {
            d = d.multiply(BigInteger.valueOf(31)).add(BigInteger.valueOf(number));
        }
        return d;
    }

    private static void add(List<Integer> numbers, int... more) {
        for (int number : more) {
            numbers.add(number);
        }
    }

    private static void addTimes(List<Integer> numbers, int times, int... more) {
        for (int i = 0; i < times; i++) {
            add(numbers, more);
        }
    }

    private void dueDigest(String call, List<Integer> numbers) {
        due(call, unwrapped(numbers).mod(LONGS).longValue(), x.digest());
    }

    /** Builds six sledges for 8 each, and fills them from layers that have stones of 1 to 5. */
    private void fillSixSledges() {
        for (int layer = 0; layer < 5; layer++) {
            x.set(layer, 500, layer + 1);
        }
        for (int i = 0; i < 6; i++) {
            x.build(8);
            for (int sack = 0; sack < 8; sack++) {
                x.fill(i, (i + sack) % 5);
            }
        }
    }

    @Edge("PumiceSledge: Creates a slope without sledges and boats, in the hour 0")
    void newObject() {
        dueCount(0, 0, 0, 0, 0, 0, 0, 0, 500);
        dueBeach(0, 0, 0);
        refused("told(0, 0)", INDEX, () -> x.told(0, 0));
        refused("boat(0, 0)", INDEX, () -> x.boat(0, 0));
    }

    @Edge("PumiceSledge: a new object is new, whatever was done with another")
    void newObjectBesideAnother() {
        long fresh = x.digest();
        PumiceSledge other = allGusts(beachWith(3, 2, 1), 9);
        other.launch(900);
        other.stow(0, FAIR, true);
        other.sail(0);
        due("digest() of a new object", fresh, new PumiceSledge().digest());
        due("digest() of the first", fresh, x.digest());
        due("build(8) of a new object", 0, new PumiceSledge().build(8));
        due("launch(900) of a new object", 0, new PumiceSledge().launch(900));
    }

    @Edge("count: IndexOutOfBoundsException if what is not 0 to 8")
    void countRefusesOtherWhats() {
        refusedOutside(0, 8, "count(#)", INDEX, what -> x.count(what));
    }

    @Edge("beach: IndexOutOfBoundsException if kind is not 0 to 2")
    void beachRefusesOtherKinds() {
        refusedOutside(0, 2, "beach(#)", INDEX, kind -> x.beach(kind));
        x = beachWith(1, 1, 1);
        refusedOutside(0, 2, "beach(#)", INDEX, kind -> x.beach(kind));
    }

    @Edge("beach: Returns how many sacks of it lie on the beach: the first and the last kind")
    void beachOfTheFirstAndTheLastKind() {
        x = beachWith(1, 0, 0);
        dueBeach(1, 0, 0);
        x = beachWith(0, 0, 1);
        dueBeach(0, 0, 1);
    }

    @Edge("count: what 5, sacks aboard of all sledges: as many as there can be")
    void countOfSixFullSledges() {
        fillSixSledges();
        dueCount(0, 0, 6, 0, 0, 48, 0, 0, 2020);
    }

    @Edge("count: what 8, stones of all layers: the least and the greatest")
    void countOfEmptyAndFullLayers() {
        for (int layer = 0; layer < 5; layer++) {
            x.set(layer, 0, 9);
        }
        due("count(8)", 0, x.count(8));
        for (int layer = 0; layer < 5; layer++) {
            x.set(layer, 500, 1);
        }
        due("count(8)", 2500, x.count(8));
    }

    @Edge("count: what 7, sacks that fell off in all, of all sledges and hours")
    void countOfSacksThatFellOff() {
        x = allGusts(slope(), 9);
        for (int i = 0; i < 6; i++) {
            sledgeWith(x, 2, i % 3);
            x.go(i);
        }
        x.pass(1);
        due("count(7) behind the first hour", 6, x.count(7));
        x.pass(1);
        due("count(7) behind the second", 12, x.count(7));
        x.pass(60);
        due("count(7) behind all", 12, x.count(7));
        due("count(5)", 0, x.count(5));
        due("count(6)", 0, x.count(6));
    }

    @Edge("count: what 4, coins, those of all boats added")
    void countOfCoins() {
        x = beachWith(0, 0, 4);
        for (int i = 0; i < 4; i++) {
            x.launch(100);
            x.stow(i, LIGHT, i % 2 == 0);
            due("sail(" + i + ")", 6, x.sail(i));
            due("count(4)", 6 * (i + 1), x.count(4));
        }
    }

    @Edge("Beach: as many sacks as come lie there; no greatest number is told")
    void beachIsNeverFull() {
        x.build(1);
        for (int way = 0; way < 120; way++) {
            x.set(0, 10, 1);
            x.fill(0, 0);
            x.go(0);
            x.pass(60);
        }
        dueBeach(0, 0, 120);
        due("count(6)", 120, x.count(6));
    }

    @Edge("mean: 0 without any: no sledge at all")
    void meanWithoutSledges() {
        due("mean()", 0.0, x.mean());
    }

    @Edge("mean: 0 without any: sledges that are empty")
    void meanOfEmptySledges() {
        for (int i = 0; i < 6; i++) {
            x.build(8);
        }
        due("mean()", 0.0, x.mean());
    }

    @Edge("mean: 0 without any: the last ones were unloaded, or fell off")
    void meanWhenAllAreGone() {
        sledgeWith(x, 3, 0);
        sledgeWith(x, 1, 0);
        x.setGust(0, 9);
        x.go(0);
        x.go(1);
        due("mean() of all", 50.0, x.mean());
        x.pass(1);
        due("mean() of those that are left", 50.0, x.mean());
        x.pass(9);
        due("mean()", 0.0, x.mean());
    }

    @Edge("mean: of all sacks aboard of sledges: the least, and the greatest")
    void meanOfTheLeastAndTheGreatest() {
        x.set(0, 100, 1);
        x.set(1, 100, 9);
        sledgeWith(x, 1, 0);
        due("mean() of 10", 10.0, x.mean());
        sledgeWith(x, 1, 1);
        due("mean() of 10 and 90", 50.0, x.mean());
        x = new PumiceSledge();
        x.set(1, 100, 9);
        sledgeWith(x, 8, 1);
        due("mean() of eight of 90", 90.0, x.mean());
    }

    @Edge("mean: is not cut to a whole number")
    void meanIsNotCut() {
        x.set(0, 100, 1);
        x.set(1, 100, 2);
        sledgeWith(x, 2, 0);
        sledgeWith(x, 1, 1);
        due("mean() of 10, 10, 20", 40.0 / 3, x.mean());
        x.fill(1, 1);
        due("mean() of 10, 10, 20, 20", 15.0, x.mean());
        x.fill(0, 0);
        x.fill(0, 0);
        x.fill(0, 0);
        due("mean() of five of 10 and two of 20", 90.0 / 7, x.mean());
    }

    @Edge("mean: of sledges that stand, go down, and of all six")
    void meanOfSixSledges() {
        fillSixSledges();
        due("mean()", 1410.0 / 48, x.mean());
        x.go(5);
        x.go(0);
        x.pass(1);
        due("mean() with two that go down", 1410.0 / 48, x.mean());
    }

    @Edge("digest: of a new object: neither sledges nor boats")
    void digestOfANewObject() {
        List<Integer> numbers = new ArrayList<>();
        add(numbers, 0, 0, 0, 0, 0, 0, 0, 0, 500);
        addTimes(numbers, 8, 0);
        addTimes(numbers, 5, 100, 5, 1, 10);
        add(numbers, 0, 0, 0);
        dueDigest("digest()", numbers);
        dueDigest("digest() again", numbers);
    }

    @Edge("digest: which wraps around as a 64-bit integer")
    void digestWrapsAround() {
        List<Integer> numbers = new ArrayList<>();
        x.setGust(7, 1);
        x.set(0, 0, 9);
        add(numbers, 0, 0, 0, 0, 0, 0, 0, 0, 400);
        add(numbers, 0, 0, 0, 0, 0, 0, 0, 1);
        add(numbers, 0, 9, 0, 0);
        addTimes(numbers, 4, 100, 5, 1, 10);
        add(numbers, 0, 0, 0);
        due("it is greater than 64 bits", true, unwrapped(numbers).bitLength() > 64);
        dueDigest("digest()", numbers);
    }

    @Edge("digest: numbers below 0 are added too: no last kind, and a trim below 0")
    void digestOfNumbersBelow0() {
        x = beachWith(0, 1, 0);
        x.launch(100);
        x.stow(0, FAIR, false);
        List<Integer> numbers = new ArrayList<>();
        add(numbers, 20, 0, 1, 1, 0, 0, 0, 0, 1690);
        addTimes(numbers, 8, 0);
        add(numbers, 500, 3, 2, 50, 490, 6, 1, 49, 500, 9, 0, 50);
        addTimes(numbers, 2, 100, 5, 1, 10);
        add(numbers, 8, 0, 20, 0, 0, -1);
        add(numbers, 100, 0, 50, -50, 2, 1, 50);
        add(numbers, 0, 0, 0);
        dueDigest("digest()", numbers);
    }

    @Edge("digest: six full sledges, the weights of their sacks in their order, and four boats")
    void digestOfAFullSlope() {
        fillSixSledges();
        List<Integer> numbers = new ArrayList<>();
        for (int hour = 0; hour < 8; hour++) {
            x.setGust(hour, 9 - hour);
        }
        for (int i = 0; i < 4; i++) {
            x.launch(100 + i);
        }
        add(numbers, 0, 9, 6, 4, 0, 48, 0, 0, 2020, 9, 8, 7, 6, 5, 4, 3, 2);
        int[] stones = {400, 400, 400, 410, 410};
        int[] kinds = {LIGHT, LIGHT, LIGHT, FAIR, FAIR};
        for (int layer = 0; layer < 5; layer++) {
            add(numbers, stones[layer], layer + 1, kinds[layer], stones[layer] / 10);
        }
        for (int i = 0; i < 6; i++) {
            addFullSledge(numbers, i);
        }
        for (int i = 0; i < 4; i++) {
            add(numbers, 100 + i, 0, 0, 0, 0, 1, 100 + i);
        }
        add(numbers, 0, 0, 0);
        dueDigest("digest()", numbers);
    }

    /** A sledge as fillSixSledges makes it: its sacks' weights go on from 10 to 50, and again. */
    private static void addFullSledge(List<Integer> numbers, int sledge) {
        int sum = 0;
        int[] weights = new int[8];
        for (int sack = 0; sack < 8; sack++) {
            weights[sack] = (sledge + sack) % 5 * 10 + 10;
            sum += weights[sack];
        }
        add(numbers, 8, 8, 20, 0, sum, weights[7] <= 30 ? LIGHT : FAIR);
        add(numbers, weights);
    }

    @Edge("digest: a sack that is aboard no more has no number")
    void digestBehindUnloading() {
        sledgeWith(x, 2, 0);
        x.setGust(0, 9);
        x.go(0);
        x.pass(1);
        List<Integer> numbers = new ArrayList<>();
        add(numbers, 1, 0, 1, 0, 0, 1, 0, 1, 480, 9, 0, 0, 0, 0, 0, 0, 0, 80, 5, 1, 8);
        addTimes(numbers, 4, 100, 5, 1, 10);
        add(numbers, 8, 1, 12, 1, 50, 1, 50);
        add(numbers, 0, 0, 0);
        dueDigest("digest() when one has fallen off", numbers);
        x.pass(3);
        numbers.clear();
        add(numbers, 4, 0, 1, 0, 0, 0, 1, 1, 480, 9, 0, 0, 0, 0, 0, 0, 0, 80, 5, 1, 8);
        addTimes(numbers, 4, 100, 5, 1, 10);
        add(numbers, 8, 0, 0, 2, 0, -1);
        add(numbers, 0, 1, 0);
        dueDigest("digest() when the other lies on the beach", numbers);
    }

    @Edge("An object is used for at most 512 calls: as many hours as can be")
    void hoursOf512Calls() {
        x.setGust(4, 7);
        for (int call = 1; call < 510; call++) {
            due("pass(60)", 0, x.pass(60));
        }
        due("count(0)", 30540, x.count(0));
        due("count(1): the remainder of 8 is 4", 7, x.count(1));
    }

    @Edge("An object is used for at most 512 calls: asking again and again tells the same")
    void asking512Times() {
        sledgeWith(x, 8, 0);
        x.go(0);
        x.launch(100);
        for (int time = 0; time < 100; time++) {
            due("arrives(0)", 8, x.arrives(0));
            due("back(0)", 14, x.back(0));
            due("foresee(60, 6)", 8, x.foresee(60, 6));
            due("foresee(9, 5)", 8, x.foresee(9, 5));
            due("advise(0, 0)", 1, x.advise(0, HEAVY));
        }
        due("count(6)", 0, x.count(6));
    }

    /** Each of these calls is refused in every state. */
    private static void askInVain(PumiceSledge y) {
        Check.Call[] calls = {
            () -> y.set(5, 1, 1), () -> y.set(0, 501, 1), () -> y.set(4, 1, 0),
            () -> y.setGust(8, 1), () -> y.setGust(0, 10), () -> y.build(0), () -> y.build(9),
            () -> y.fill(6, 0), () -> y.fill(0, 5), () -> y.go(6), () -> y.launch(99),
            () -> y.launch(901), () -> y.stow(4, 0, true), () -> y.stow(0, 3, false),
            () -> y.sail(4), () -> y.layer(0, 4), () -> y.told(0, 6), () -> y.boat(0, 7),
            () -> y.beach(3), () -> y.count(9), () -> y.pass(0), () -> y.pass(61),
            () -> y.back(6), () -> y.arrives(6), () -> y.advise(0, 3), () -> y.foresee(0, 5),
            () -> y.foresee(61, 5), () -> y.foresee(1, 8),
        };
        for (Check.Call call : calls) {
            Check.outcome(call);
        }
    }

    @Edge("A method that throws an exception changes nothing: what comes later is the same")
    void refusedCallsChangeNothingLater() {
        PumiceSledge y = new PumiceSledge();
        askInVain(y);
        dueSame(y, "build", x.build(3), y.build(3));
        askInVain(y);
        dueSame(y, "fill", x.fill(0, 0), y.fill(0, 0));
        askInVain(y);
        dueSame(y, "fill", x.fill(0, 1), y.fill(0, 1));
        dueSame(y, "setGust", x.setGust(2, 9), y.setGust(2, 9));
        askInVain(y);
        dueSame(y, "go", x.go(0), y.go(0));
        askInVain(y);
        dueSame(y, "pass", x.pass(2), y.pass(2));
        askInVain(y);
        dueSame(y, "back", x.back(0), y.back(0));
        dueSame(y, "arrives", x.arrives(0), y.arrives(0));
        askInVain(y);
        dueSame(y, "foresee", x.foresee(3, 7), y.foresee(3, 7));
        dueSame(y, "pass", x.pass(9), y.pass(9));
        askInVain(y);
        dueSame(y, "launch", x.launch(100), y.launch(100));
        askInVain(y);
        dueSame(y, "stow", x.stow(0, FAIR, true), y.stow(0, FAIR, true));
        askInVain(y);
        dueSame(y, "advise", x.advise(0, FAIR), y.advise(0, FAIR));
        dueSame(y, "sail", x.sail(0), y.sail(0));
    }

    private void dueSame(PumiceSledge y, String call, int want, int got) {
        due(call + " behind refused calls", want, got);
        due("digest() behind it", x.digest(), y.digest());
    }

    @Edge("If several exceptions apply, the one that is named first is thrown: in every method")
    void theFirstNamedIsThrown() {
        for (int i = 0; i < 6; i++) {
            x.build(1);
        }
        for (int i = 0; i < 4; i++) {
            x.launch(100);
        }
        x.set(0, 0, 5);
        x.go(0);
        refused("set(5, 501, 10)", INDEX, () -> x.set(5, 501, 10));
        refused("setGust(8, 10)", INDEX, () -> x.setGust(8, 10));
        refused("build(9) with six", ARGUMENT, () -> x.build(9));
        refused("fill(0, 5) of one that goes down", INDEX, () -> x.fill(0, 5));
        refused("fill(6, 0) of no stones", INDEX, () -> x.fill(6, 0));
        refused("launch(901) with four", ARGUMENT, () -> x.launch(901));
        refused("stow(0, 3, true) of no sack", INDEX, () -> x.stow(0, 3, true));
        refused("stow(4, 0, true) of no sack", INDEX, () -> x.stow(4, 0, true));
        refused("foresee(0, 0)", ARGUMENT, () -> x.foresee(0, 0));
    }
}
