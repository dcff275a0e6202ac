import java.math.BigInteger;
import java.util.ArrayList;
import java.util.Arrays;
import java.util.List;

/**
 * The document once more, written as slowly and plainly as it reads and in another shape than the program:
 * spots in one row (0 the outside, 1 .. n the cells, n + 1 the inside), flows made anew each hour, big numbers.
 */
final class Model {
    private final int n;
    private final List<List<int[]>> curves = new ArrayList<>();
    private final int[][] rates = new int[6][];
    private final int[][] layers;
    private final List<int[]> table = new ArrayList<>();
    private final int[][] outside = new int[24][4];
    private final int[][] inside = new int[24][2];
    private final List<int[]> rows = new ArrayList<>();
    private int[] films = {10, 10};
    private final long[] water;
    private final int[] warmth;
    private final int[] passes;
    private final int[] frozen;
    private final int[] greatest;
    private final long[] sums = new long[6];
    private int over = 0;
    private int mould = 0;

    Model(int cells) {
        n = cells < 1 ? 1 : cells > 12 ? 12 : cells;
        for (int m = 0; m < 6; m++) {
            curves.add(new ArrayList<>(List.of(new int[] {0, 0})));
            rates[m] = new int[] {0, 0, 100};
        }
        layers = new int[n][];
        for (int k = 0; k < n; k++) {
            layers[k] = new int[] {0, 10, 0};
        }
        water = new long[n];
        warmth = new int[n];
        passes = new int[n];
        frozen = new int[n];
        greatest = new int[n];
    }

    private static void argument(boolean fine) {
        if (!fine) {
            throw new IllegalArgumentException();
        }
    }

    private static void state(boolean fine) {
        if (!fine) {
            throw new IllegalStateException();
        }
    }

    private static boolean in(int x, int least, int most) {
        return least <= x && x <= most;
    }

    private static int line(List<int[]> corners, long at) {
        if (corners.isEmpty()) {
            return 0;
        }
        int[] before = null;
        for (int[] corner : corners) {
            if (at == corner[0] || (at < corner[0] && before == null)) {
                return corner[1];
            }
            if (at < corner[0]) {
                BigInteger up = BigInteger.valueOf(corner[1] - before[1]).multiply(BigInteger.valueOf(at - before[0]));
                return before[1] + up.divide(BigInteger.valueOf(corner[0] - before[0])).intValueExact();
            }
            before = corner;
        }
        return before[1];
    }

    private int most(int k) {
        List<int[]> curve = curves.get(layers[k][0]);
        return curve.get(curve.size() - 1)[0];
    }

    private static boolean above(List<int[]> corners, int x, int y) {
        int[] last = corners.isEmpty() ? new int[] {-9999, -1} : corners.get(corners.size() - 1);
        return x > last[0] && y > last[1];
    }

    int curve(int m, int held, int damp) {
        argument(in(m, 0, 5) && in(held, 0, 1000000) && in(damp, 0, 10000));
        List<int[]> curve = curves.get(m);
        state(curve.size() < 7 && above(curve, held, damp) && over == 0);
        curve.add(new int[] {held, damp});
        return curve.size();
    }

    int rates(int m, int vapour, int liquid, int leads) {
        argument(in(m, 0, 5) && in(vapour, 0, 1000) && in(liquid, 0, 1000) && in(leads, 1, 1000));
        rates[m] = new int[] {vapour, liquid, leads};
        return 0;
    }

    int cell(int k, int m, int thickness) {
        argument(in(k, 0, n - 1) && in(m, 0, 5) && in(thickness, 1, 1000));
        state(over == 0);
        sums[5] -= water[k];
        water[k] = 0;
        layers[k][0] = m;
        layers[k][1] = thickness;
        return 0;
    }

    int table(int w, int p) {
        argument(in(w, -5000, 10000) && in(p, 0, 100000));
        state(table.size() < 8 && above(table, w, p));
        table.add(new int[] {w, p});
        return table.size();
    }

    int full(int w) {
        argument(in(w, -5000, 10000));
        return line(table, w);
    }

    int films(int outer, int inner) {
        argument(in(outer, 0, 1000) && in(inner, 0, 1000));
        films = new int[] {outer, inner};
        return 0;
    }

    int outside(int hour, int w, int damp, int rain, int sun) {
        argument(in(hour, 0, 23) && in(w, -5000, 5000) && in(damp, 0, 10000) && in(rain, 0, 1000) && in(sun, 0, 1000));
        outside[hour] = new int[] {w, damp, rain, sun};
        return 0;
    }

    int inside(int hour, int w, int damp) {
        argument(in(hour, 0, 23) && in(w, -5000, 5000) && in(damp, 0, 10000));
        inside[hour] = new int[] {w, damp};
        return 0;
    }

    int water(int k, int much) {
        argument(in(k, 0, n - 1) && in(much, 0, most(k)));
        int was = (int) water[k];
        sums[5] += much - was;
        water[k] = much;
        return was;
    }

    int leak(int k, int rate) {
        argument(in(k, 0, n - 1) && in(rate, 0, 1000));
        int was = layers[k][2];
        layers[k][2] = rate;
        return was;
    }

    int growth(int damp, int from, int to, int more) {
        argument(in(damp, 0, 10000) && in(from, -5000, 10000) && in(to, -5000, 10000) && from <= to && in(more, 1, 1000));
        state(rows.size() < 6);
        rows.add(new int[] {damp, from, to, more});
        return rows.size();
    }

    int run(int hours) {
        argument(in(hours, 1, 240));
        state(over + hours <= 10000);
        for (int i = 0; i < hours; i++) {
            hour();
        }
        return over;
    }

    int told(int k, int what) {
        argument(in(k, 0, n - 1) && in(what, 0, 5));
        return new int[] {(int) water[k], damp(k), warmth[k], passes[k], frozen[k], greatest[k]}[what];
    }

    long balance(int what) {
        argument(in(what, 0, 5));
        return what == 0 ? Arrays.stream(water).sum() : sums[what];
    }

    int mould() {
        return mould;
    }

    int order(int hours, int k) {
        argument(in(hours, 1, 48) && in(k, 0, n - 1));
        state(n <= 5);
        List<int[]> all = new ArrayList<>();
        collect(new int[0], all);
        int[] best = null;
        long least = 0;
        for (int[] row : all) {
            long wet = wetness(row, hours);
            if (best == null || wet < least) {
                best = row;
                least = wet;
            }
        }
        return best[k];
    }

    private void collect(int[] begun, List<int[]> all) {
        if (begun.length == n) {
            all.add(begun);
        }
        for (int k = 0; k < n; k++) {
            int next = k;
            if (Arrays.stream(begun).noneMatch(x -> x == next)) {
                int[] longer = Arrays.copyOf(begun, begun.length + 1);
                longer[begun.length] = k;
                collect(longer, all);
            }
        }
    }

    private long wetness(int[] row, int hours) {
        Model own = new Model(n);
        for (int m = 0; m < 6; m++) {
            own.curves.set(m, curves.get(m));
            own.rates[m] = rates[m];
        }
        own.table.addAll(table);
        own.films = films;
        for (int hour = 0; hour < 24; hour++) {
            own.outside[hour] = outside[hour];
            own.inside[hour] = inside[hour];
        }
        for (int place = 0; place < n; place++) {
            own.layers[place] = layers[row[place]];
        }
        own.run(hours);
        return own.balance(0);
    }

    private int damp(int k) {
        return line(curves.get(layers[k][0]), water[k]);
    }

    private int pressure(int w, int damp) {
        return (int) ((long) line(table, w) * damp / 10000);
    }

    private void hour() {
        int[] out = outside[over % 24];
        int[] in = inside[over % 24];
        int face = out[0] + out[3];
        tellWarmths(face, in[0]);
        int[] p = new int[n];
        int[] d = new int[n];
        for (int k = 0; k < n; k++) {
            d[k] = damp(k);
            p[k] = pressure(warmth[k], d[k]);
        }
        List<long[]> flows = new ArrayList<>();
        for (int a = 0; a + 1 < n; a++) {
            int[] ra = rates[layers[a][0]];
            int[] rb = rates[layers[a + 1][0]];
            long both = (long) (p[a] - p[a + 1]) * Math.min(ra[0], rb[0]) / 1000
                + (long) (d[a] - d[a + 1]) * Math.min(ra[1], rb[1]) / 1000;
            flow(flows, a + 1, a + 2, both);
        }
        int[] first = rates[layers[0][0]];
        int[] last = rates[layers[n - 1][0]];
        int pin = pressure(in[0], in[1]);
        flow(flows, 0, 1, (long) (pressure(face, out[1]) - p[0]) * first[0] / 1000);
        flow(flows, 0, 1, (long) out[2] * first[1] / 100);
        flow(flows, n + 1, n, (long) (pin - p[n - 1]) * last[0] / 1000);
        for (int k = 0; k < n; k++) {
            long leaked = Math.floorDiv((long) (pin - p[k]) * layers[k][2], 1000L);
            if (leaked > 0) {
                flow(flows, n + 1, k + 1, leaked);
            }
        }
        limit(flows, 0);
        limit(flows, 1);
        move(flows);
        frostAndMould();
        over++;
    }

    private void tellWarmths(int face, int inner) {
        long[] r = new long[n];
        long sum = films[0] + films[1];
        for (int k = 0; k < n; k++) {
            r[k] = 100L * layers[k][1] / rates[layers[k][0]][2];
            sum += r[k];
        }
        for (int k = 0; k < n; k++) {
            long way = 2L * films[0] + r[k];
            for (int before = 0; before < k; before++) {
                way += 2 * r[before];
            }
            warmth[k] = sum == 0 ? face : (int) (face + Math.floorDiv((inner - face) * way, 2 * sum));
        }
    }

    private static void flow(List<long[]> flows, int a, int b, long much) {
        flows.add(much >= 0 ? new long[] {a, b, much} : new long[] {b, a, -much});
    }

    /** End 0 of a flow is the spot that it leaves, end 1 the one that it comes to. */
    private void limit(List<long[]> flows, int end) {
        for (int spot = 1; spot <= n; spot++) {
            long room = end == 0 ? water[spot - 1] : most(spot - 1) - water[spot - 1];
            long all = 0;
            for (long[] flow : flows) {
                all += flow[end] == spot ? flow[2] : 0;
            }
            for (long[] flow : flows) {
                if (all > room && flow[end] == spot) {
                    flow[2] = flow[2] * room / all;
                }
            }
        }
    }

    private void move(List<long[]> flows) {
        for (long[] flow : flows) {
            int from = (int) flow[0];
            int to = (int) flow[1];
            if (from == 0) {
                sums[1] += flow[2];
            } else if (from == n + 1) {
                sums[2] += flow[2];
            } else {
                water[from - 1] -= flow[2];
            }
            if (to == 0) {
                sums[3] += flow[2];
            } else if (to == n + 1) {
                sums[4] += flow[2];
            } else {
                water[to - 1] += flow[2];
            }
        }
    }

    private void frostAndMould() {
        for (int k = 0; k < n; k++) {
            greatest[k] = Math.max(greatest[k], damp(k));
            if (frozen[k] == 0) {
                frozen[k] = warmth[k] < 0 && damp(k) >= 9000 ? 1 : 0;
            } else if (warmth[k] >= 0) {
                frozen[k] = 0;
                passes[k]++;
            }
        }
        int change = -1;
        for (int i = rows.size() - 1; i >= 0; i--) {
            int[] row = rows.get(i);
            if (damp(n - 1) >= row[0] && warmth[n - 1] >= row[1] && warmth[n - 1] <= row[2]) {
                change = row[3];
            }
        }
        mould = Math.min(1000000, Math.max(0, mould + change));
    }
}
