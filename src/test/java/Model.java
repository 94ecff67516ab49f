import java.util.ArrayList;
import java.util.List;

/**
 * The document once more, word by word, to compare with: what would be is found by copying all of
 * it and letting hours go by in the copy. An exception is told by its class alone.
 */
final class Model {
    private static final class Sledge {
        int holds;
        List<Integer> sacks = new ArrayList<>();
        int height = 20;
        char way = 's';
    }

    private static final int[] PUT_WEIGHTS = {80, 50, 20};

    private int[] stones = {100, 100, 100, 100, 100};
    private int[] weights = {5, 5, 5, 5, 5};
    private int[] gusts = new int[8];
    private List<Sledge> sledges = new ArrayList<>();
    private List<int[]> boats = new ArrayList<>();
    private int[] beach = new int[3];
    private int hour;
    private int coins;
    private int lost;

    Model copy() {
        Model m = new Model();
        m.stones = stones.clone();
        m.weights = weights.clone();
        m.gusts = gusts.clone();
        m.beach = beach.clone();
        m.hour = hour;
        m.coins = coins;
        m.lost = lost;
        for (Sledge s : sledges) {
            Sledge t = new Sledge();
            t.holds = s.holds;
            t.sacks = new ArrayList<>(s.sacks);
            t.height = s.height;
            t.way = s.way;
            m.sledges.add(t);
        }
        for (int[] b : boats) {
            m.boats.add(b.clone());
        }
        return m;
    }

    private static void index(boolean isGood) {
        if (!isGood) {
            throw new IndexOutOfBoundsException();
        }
    }

    private static void argument(boolean isGood) {
        if (!isGood) {
            throw new IllegalArgumentException();
        }
    }

    private static void state(boolean isGood) {
        if (!isGood) {
            throw new IllegalStateException();
        }
    }

    private static boolean in(int x, int from, int to) {
        return from <= x && x <= to;
    }

    private Sledge sledge(int n) {
        index(in(n, 0, sledges.size() - 1));
        return sledges.get(n);
    }

    private int[] vessel(int n) {
        index(in(n, 0, boats.size() - 1));
        return boats.get(n);
    }

    private static int kind(int weight) {
        return weight > 60 ? 0 : weight > 30 ? 1 : 2;
    }

    int set(int layer, int newStones, int weight) {
        index(in(layer, 0, 4));
        argument(in(newStones, 0, 500) && in(weight, 1, 9));
        int before = 10 * stones[layer] + weights[layer];
        stones[layer] = newStones;
        weights[layer] = weight;
        return before;
    }

    int setGust(int h, int gust) {
        index(in(h, 0, 7));
        argument(in(gust, 0, 9));
        int before = gusts[h];
        gusts[h] = gust;
        return before;
    }

    int build(int holds) {
        argument(in(holds, 1, 8));
        state(sledges.size() < 6);
        Sledge s = new Sledge();
        s.holds = holds;
        sledges.add(s);
        return sledges.size() - 1;
    }

    int fill(int n, int layer) {
        Sledge s = sledge(n);
        index(in(layer, 0, 4));
        state(s.way == 's' && s.sacks.size() < s.holds && stones[layer] >= 10);
        stones[layer] -= 10;
        s.sacks.add(10 * weights[layer]);
        return kind(10 * weights[layer]);
    }

    int go(int n) {
        Sledge s = sledge(n);
        state(s.way == 's');
        s.way = 'd';
        return s.sacks.size();
    }

    int launch(int load) {
        argument(in(load, 100, 900));
        state(boats.size() < 4);
        boats.add(new int[] {load, 0, 0});
        return boats.size() - 1;
    }

    int stow(int n, int kind, boolean isFore) {
        int[] b = vessel(n);
        index(in(kind, 0, 2));
        state(beach[kind] > 0 && b[1] + b[2] + PUT_WEIGHTS[kind] <= b[0]);
        beach[kind]--;
        b[isFore ? 1 : 2] += PUT_WEIGHTS[kind];
        return b[1] - b[2];
    }

    int sail(int n) {
        int[] b = vessel(n);
        state(boat(n, 5) == 1);
        int brought = (b[1] + b[2]) / 10 * 3;
        b[1] = 0;
        b[2] = 0;
        coins += brought;
        return brought;
    }

    int layer(int n, int what) {
        index(in(n, 0, 4) && in(what, 0, 3));
        return new int[] {stones[n], weights[n], kind(10 * weights[n]), stones[n] / 10}[what];
    }

    int told(int n, int what) {
        Sledge s = sledge(n);
        index(in(what, 0, 5));
        int sum = s.sacks.stream().mapToInt(Integer::intValue).sum();
        int last = s.sacks.isEmpty() ? -1 : kind(s.sacks.get(s.sacks.size() - 1));
        return new int[] {s.holds, s.sacks.size(), s.height, "sdu".indexOf(s.way), sum, last}[what];
    }

    private static int depth(int fore, int aft) {
        int trim = fore > aft ? fore - aft : aft - fore;
        return (fore + aft) / 50 + trim / 40;
    }

    int boat(int n, int what) {
        int[] b = vessel(n);
        index(in(what, 0, 6));
        int trim = b[1] - b[2];
        int can = depth(b[1], b[2]) <= 20 && in(trim, -100, 100) ? 1 : 0;
        return new int[] {b[0], b[1], b[2], trim, depth(b[1], b[2]), can, b[0] - b[1] - b[2]}[what];
    }

    int beach(int kind) {
        index(in(kind, 0, 2));
        return beach[kind];
    }

    int count(int what) {
        index(in(what, 0, 8));
        int aboard = sledges.stream().mapToInt(s -> s.sacks.size()).sum();
        int all = 0;
        for (int s : stones) {
            all += s;
        }
        return new int[] {hour, gusts[hour % 8], sledges.size(), boats.size(), coins, aboard,
            beach[0] + beach[1] + beach[2], lost, all}[what];
    }

    int pass(int hours) {
        argument(in(hours, 1, 60));
        int before = count(6);
        for (int i = 0; i < hours; i++) {
            oneHour();
        }
        return count(6) - before;
    }

    private void oneHour() {
        int gust = gusts[hour % 8];
        List<Sledge> come = new ArrayList<>();
        for (Sledge s : sledges) {
            if (s.way == 'd') {
                if (!s.sacks.isEmpty() && gust > 4 + 2 * s.sacks.size()) {
                    s.sacks.remove(s.sacks.size() - 1);
                    lost++;
                }
                s.height -= 4 - s.sacks.size() / 3 + gust / 2;
                if (s.height <= 0) {
                    s.height = 0;
                    come.add(s);
                }
            }
        }
        for (Sledge s : sledges) {
            if (s.way == 'u') {
                s.height += 5;
                if (s.height >= 20) {
                    s.height = 20;
                    s.way = 's';
                }
            }
        }
        for (Sledge s : come) {
            for (int weight : s.sacks) {
                beach[kind(weight)]++;
            }
            s.sacks.clear();
            s.way = 'u';
        }
        hour++;
    }

    int back(int n) {
        sledge(n);
        Model m = copy();
        while (m.told(n, 3) != 0) {
            m.pass(1);
        }
        return m.hour - hour;
    }

    int arrives(int n) {
        if (sledge(n).way == 'u') {
            return 0;
        }
        Model m = copy();
        Sledge s = m.sledges.get(n);
        m.sledges.clear();
        m.sledges.add(s);
        s.way = 'd';
        return m.pass(60);
    }

    int advise(int n, int kind) {
        int[] b = vessel(n);
        index(in(kind, 0, 2));
        int more = PUT_WEIGHTS[kind];
        if (b[1] + b[2] + more > b[0]) {
            return 0;
        }
        return depth(b[1], b[2] + more) < depth(b[1] + more, b[2]) ? 2 : 1;
    }

    int foresee(int hours, int what) {
        argument(in(hours, 1, 60));
        index(in(what, 5, 7));
        Model m = copy();
        m.pass(hours);
        return m.count(what);
    }

    double mean() {
        double sum = 0;
        int n = 0;
        for (Sledge s : sledges) {
            for (int weight : s.sacks) {
                sum += weight;
                n++;
            }
        }
        return n == 0 ? 0 : sum / n;
    }

    long digest() {
        List<Integer> xs = new ArrayList<>();
        for (int w = 0; w < 9; w++) {
            xs.add(count(w));
        }
        for (int gust : gusts) {
            xs.add(gust);
        }
        for (int i = 0; i < 20; i++) {
            xs.add(layer(i / 4, i % 4));
        }
        for (int n = 0; n < sledges.size(); n++) {
            for (int w = 0; w < 6; w++) {
                xs.add(told(n, w));
            }
            xs.addAll(sledges.get(n).sacks);
        }
        for (int n = 0; n < boats.size(); n++) {
            for (int w = 0; w < 7; w++) {
                xs.add(boat(n, w));
            }
        }
        for (int sacks : beach) {
            xs.add(sacks);
        }
        long d = 1321;
        for (int x : xs) {
            d = d * 31 + x;
        }
        return d;
    }
}
