/** What the tests share: slopes to begin with, and numbers outside of what is allowed. */
abstract class Slopes {
    static final Class<IndexOutOfBoundsException> INDEX = IndexOutOfBoundsException.class;
    static final Class<IllegalArgumentException> ARGUMENT = IllegalArgumentException.class;
    static final Class<IllegalStateException> STATE = IllegalStateException.class;

    static final int HEAVY = 0;
    static final int FAIR = 1;
    static final int LIGHT = 2;
    static final int MIN = Integer.MIN_VALUE;
    static final int MAX = Integer.MAX_VALUE;

    /** A slope whose layers 0, 1, 2 are light, fair and heavy, with 500 stones each. */
    static PumiceSledge slope() {
        PumiceSledge x = new PumiceSledge();
        x.set(0, 500, 3);
        x.set(1, 500, 6);
        x.set(2, 500, 9);
        return x;
    }

    static PumiceSledge allGusts(PumiceSledge x, int gust) {
        for (int hour = 0; hour < 8; hour++) {
            x.setGust(hour, gust);
        }
        return x;
    }

    /** Builds a sledge for 8, and fills sacks of a layer onto it. */
    static int sledgeWith(PumiceSledge x, int sacks, int layer) {
        int sledge = x.build(8);
        for (int i = 0; i < sacks; i++) {
            x.fill(sledge, layer);
        }
        return sledge;
    }

    /** A slope with so many heavy, fair and light sacks on the beach; its sledge stands again. */
    static PumiceSledge beachWith(int heavy, int fair, int light) {
        PumiceSledge x = slope();
        x.build(8);
        bringDown(x, heavy, 2);
        bringDown(x, fair, 1);
        bringDown(x, light, 0);
        return x;
    }

    private static void bringDown(PumiceSledge x, int sacks, int layer) {
        for (int left = sacks; left > 0; left -= 8) {
            for (int i = 0; i < Math.min(8, left); i++) {
                x.fill(0, layer);
            }
            x.go(0);
            x.pass(20);
        }
    }

    /** The next one below and above what is allowed, and some far off. */
    static int[] outside(int least, int most) {
        return new int[] {least - 1, most + 1, least - 8, most + 8, MIN, MAX};
    }
}
