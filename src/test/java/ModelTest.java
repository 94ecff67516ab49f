import java.util.Random;

/** Runs of 512 calls, made by a fixed seed, on the program and on the model side by side. */
public final class ModelTest {
    private static final int RUNS = 400;
    private static final int CALLS = 512;
    private static final int[] WILD = {-1, Integer.MIN_VALUE, Integer.MAX_VALUE, 1000};

    private final Check check = new Check();
    private final PumiceSledge x = new PumiceSledge();
    private final Model m = new Model();
    private final Random random;
    private final int gustsUpTo;

    private ModelTest(int seed) {
        random = new Random(seed);
        gustsUpTo = random.nextInt(10);
    }

    public static void main(String[] args) {
        for (int seed = 0; seed < RUNS; seed++) {
            new ModelTest(seed).run(seed);
        }
        System.out.println(RUNS + " runs of " + CALLS + " calls are as the model has them");
    }

    private void run(int seed) {
        for (int call = 0; call < CALLS; call++) {
            callBoth("seed " + seed + ", call " + call + ": ");
        }
        if (check.wrong() > 0) {
            System.exit(1);
        }
    }

    /** A number from least to most, seldom one just outside, and still more seldom a wild one. */
    private int pick(int least, int most) {
        int dice = random.nextInt(100);
        if (dice == 0) {
            return WILD[random.nextInt(WILD.length)];
        }
        if (dice < 7) {
            return dice < 4 ? least - 1 : most + 1;
        }
        return least + random.nextInt(most - least + 1);
    }

    private void both(String call, Check.Call asked, Check.Call due) {
        Object want = Check.outcome(due);
        check.due(call, want, Check.outcome(asked));
        check.due(call + ", digest()", m.digest(), x.digest());
    }

    private void callBoth(String at) {
        switch (random.nextInt(6)) {
            case 0:
                callSetting(at);
                break;
            case 1:
                callSledge(at);
                break;
            case 2:
                callBoat(at);
                break;
            case 3:
                callTelling(at);
                break;
            case 4:
                callHours(at);
                break;
            default:
                callFill(at);
                break;
        }
    }

    private void callSetting(String at) {
        int a = pick(0, 4);
        int b = pick(0, 500);
        int c = pick(1, 9);
        int h = pick(0, 7);
        int gust = random.nextInt(20) == 0 ? pick(0, 9) : random.nextInt(gustsUpTo + 1);
        if (random.nextBoolean()) {
            String call = at + "set(" + a + ", " + b + ", " + c + ")";
            both(call, () -> x.set(a, b, c), () -> m.set(a, b, c));
        } else {
            String call = at + "setGust(" + h + ", " + gust + ")";
            both(call, () -> x.setGust(h, gust), () -> m.setGust(h, gust));
        }
    }

    private void callFill(String at) {
        int a = pick(0, Math.max(0, m.count(2) - 1));
        int b = pick(0, 4);
        both(at + "fill(" + a + ", " + b + ")", () -> x.fill(a, b), () -> m.fill(a, b));
    }

    private void callSledge(String at) {
        int a = pick(0, 5);
        int b = pick(1, 8);
        switch (random.nextInt(4)) {
            case 0:
                both(at + "build(" + b + ")", () -> x.build(b), () -> m.build(b));
                break;
            case 1:
                both(at + "go(" + a + ")", () -> x.go(a), () -> m.go(a));
                break;
            case 2:
                both(at + "back(" + a + ")", () -> x.back(a), () -> m.back(a));
                break;
            default:
                both(at + "arrives(" + a + ")", () -> x.arrives(a), () -> m.arrives(a));
                break;
        }
    }

    private void callBoat(String at) {
        int a = pick(0, 3);
        int b = pick(0, 2);
        int load = pick(100, 900);
        boolean isFore = random.nextBoolean();
        String stow = at + "stow(" + a + ", " + b + ", " + isFore + ")";
        String advise = at + "advise(" + a + ", " + b + ")";
        switch (random.nextInt(6)) {
            case 0:
                both(at + "launch(" + load + ")", () -> x.launch(load), () -> m.launch(load));
                break;
            case 1:
                both(at + "sail(" + a + ")", () -> x.sail(a), () -> m.sail(a));
                break;
            case 2:
                both(advise, () -> x.advise(a, b), () -> m.advise(a, b));
                break;
            default:
                both(stow, () -> x.stow(a, b, isFore), () -> m.stow(a, b, isFore));
                break;
        }
    }

    private void callTelling(String at) {
        int layer = pick(0, 4);
        int sledge = pick(0, 5);
        int boat = pick(0, 3);
        int what = pick(0, 8);
        switch (random.nextInt(6)) {
            case 0:
                both(at + "layer", () -> x.layer(layer, what), () -> m.layer(layer, what));
                break;
            case 1:
                both(at + "told", () -> x.told(sledge, what), () -> m.told(sledge, what));
                break;
            case 2:
                both(at + "boat", () -> x.boat(boat, what), () -> m.boat(boat, what));
                break;
            case 3:
                both(at + "beach", () -> x.beach(what), () -> m.beach(what));
                break;
            case 4:
                both(at + "count", () -> x.count(what), () -> m.count(what));
                break;
            default:
                both(at + "mean", () -> x.mean(), () -> m.mean());
                break;
        }
    }

    private void callHours(String at) {
        int hours = random.nextInt(8) == 0 ? pick(1, 60) : 1 + random.nextInt(5);
        int what = pick(5, 7);
        if (random.nextBoolean()) {
            both(at + "pass(" + hours + ")", () -> x.pass(hours), () -> m.pass(hours));
        } else {
            String call = at + "foresee(" + hours + ", " + what + ")";
            both(call, () -> x.foresee(hours, what), () -> m.foresee(hours, what));
        }
    }
}
