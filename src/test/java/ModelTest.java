import java.util.Random;

/** Many runs of calls, sound and unsound ones, answered by the program and by the model alike (all promises). */
public final class ModelTest {
    private static final Check CHECK = new Check();
    private static final int RUNS = 3000;
    /** Nothing is promised of an object behind so many calls. */
    private static final int CALLS = 512;
    /** A whole day, and the waters behind it. */
    private static final int DEAREST = 62;
    private static final int[] STRANGE = {Integer.MIN_VALUE, Integer.MAX_VALUE, -1, 0, 1, 5, 6, 11, 12, 23, 24, 48, 49,
        240, 241, 1000, 1001, -5000, -5001, 5000, 5001, 10000, 10001, 100000, 100001, 1000000, 1000001};

    private final Random random;
    private final WallDamp program;
    private final Model model;
    private final int cells;
    private final boolean coarse;
    private String trace = "";
    private int calls = 0;

    private ModelTest(long seed) {
        random = new Random(seed);
        int asked = random.nextInt(10) == 0 ? strange() : 1 + random.nextInt(random.nextBoolean() ? 5 : 12);
        cells = Math.max(1, Math.min(12, asked));
        coarse = random.nextBoolean();
        program = new WallDamp(asked);
        model = new Model(asked);
    }

    public static void main(String[] args) {
        for (long seed = 1; seed <= RUNS; seed++) {
            ModelTest test = new ModelTest(seed);
            if (!test.runAll()) {
                CHECK.holds("seed " + seed + ": " + test.trace, false);
                break;
            }
            CHECK.holds("seed " + seed, true);
        }
        CHECK.end();
    }

    private boolean runAll() {
        boolean same = true;
        for (int i = 0; i < 40 && same && calls < CALLS / 2; i++) {
            same = setUp(random.nextInt(11));
        }
        while (same && calls < CALLS - DEAREST - allTolds()) {
            same = goOn(random.nextInt(24)) && watersTold();
        }
        return same && allTold();
    }

    private boolean compare(String call, String got, String due) {
        calls++;
        trace = call + " answered " + got + ", due is " + due;
        return got.equals(due);
    }

    private boolean setUp(int which) {
        return switch (which) {
            case 0, 1, 2 -> curve(material(), heldCorner(), number(1, 10000));
            case 3, 4 -> rates(material(), number(0, 1000), number(0, 1000), number(1, 1000));
            case 5 -> cell(place(), material(), number(1, 1000));
            case 6 -> table(number(-5000, 10000), number(0, 100000));
            case 7 -> outside(number(0, 23), number(-5000, 5000), number(0, 10000), number(0, 1000), number(0, 1000));
            case 8 -> inside(number(0, 23), number(-5000, 5000), number(0, 10000));
            case 9 -> growth(number(0, 10000), number(-5000, 3000), number(-1000, 10000), number(1, 1000));
            default -> wholeDay();
        };
    }

    private boolean goOn(int which) {
        return switch (which) {
            case 0 -> run(number(1, 240));
            case 1, 2, 3, 4, 5, 6, 7 -> run(1 + random.nextInt(3));
            case 8, 9 -> leak(place(), number(0, 1000));
            case 10, 11, 12 -> water(place(), random.nextInt(1 + random.nextInt(coarse ? 60 : 1000000)));
            case 13 -> films(number(0, 1000), number(0, 1000));
            case 14 -> order(number(1, 48), place());
            case 15 -> full(number(-5000, 10000));
            case 16 -> told(place(), number(0, 5)) && balance(number(0, 5));
            default -> setUp(random.nextInt(11));
        };
    }

    private int strange() {
        return STRANGE[random.nextInt(STRANGE.length)];
    }

    private int number(int least, int most) {
        int kind = random.nextInt(30);
        if (kind == 0) {
            return strange();
        }
        if (kind < 5) {
            return random.nextBoolean() ? least : most;
        }
        if (coarse && kind < 15) {
            return least + random.nextInt(1 + Math.min(20, most - least));
        }
        return least + random.nextInt(most - least + 1);
    }

    private int heldCorner() {
        return coarse ? number(1, 60) : number(1, 1 + random.nextInt(1000000));
    }

    private int place() {
        return number(0, cells - 1);
    }

    private int material() {
        return random.nextInt(30) == 0 ? strange() : random.nextInt(3);
    }

    private boolean wholeDay() {
        boolean same = true;
        for (int hour = 0; hour < 24 && same; hour++) {
            same = outside(hour, number(-2000, 3000), number(0, 10000), random.nextInt(3) == 0 ? number(0, 1000) : 0, number(0, 1000))
                && inside(hour, number(-1000, 3000), number(0, 10000));
        }
        return same;
    }

    private boolean watersTold() {
        for (int k = 0; k < cells; k++) {
            if (!told(k, 0)) {
                return false;
            }
        }
        return compare("mould", "" + program.mould(), "" + model.mould());
    }

    private int allTolds() {
        return 6 * cells + 7;
    }

    private boolean allTold() {
        for (int what = 0; what < 6; what++) {
            for (int k = 0; k < cells; k++) {
                if (!told(k, what)) {
                    return false;
                }
            }
            if (!balance(what)) {
                return false;
            }
        }
        return compare("mould", "" + program.mould(), "" + model.mould());
    }

    private boolean curve(int m, int held, int damp) {
        return compare("curve " + m + " " + held + " " + damp,
            Check.outcome(() -> program.curve(m, held, damp)), Check.outcome(() -> model.curve(m, held, damp)));
    }

    private boolean rates(int m, int vapour, int liquid, int leads) {
        return compare("rates " + m + " " + vapour + " " + liquid + " " + leads, Check.outcome(() -> {
            program.rates(m, vapour, liquid, leads);
            return 0;
        }), Check.outcome(() -> model.rates(m, vapour, liquid, leads)));
    }

    private boolean cell(int k, int m, int thickness) {
        return compare("cell " + k + " " + m + " " + thickness, Check.outcome(() -> {
            program.cell(k, m, thickness);
            return 0;
        }), Check.outcome(() -> model.cell(k, m, thickness)));
    }

    private boolean table(int w, int p) {
        return compare("table " + w + " " + p,
            Check.outcome(() -> program.table(w, p)), Check.outcome(() -> model.table(w, p)));
    }

    private boolean full(int w) {
        return compare("full " + w, Check.outcome(() -> program.full(w)), Check.outcome(() -> model.full(w)));
    }

    private boolean films(int outer, int inner) {
        return compare("films " + outer + " " + inner, Check.outcome(() -> {
            program.films(outer, inner);
            return 0;
        }), Check.outcome(() -> model.films(outer, inner)));
    }

    private boolean outside(int hour, int w, int damp, int rain, int sun) {
        return compare("outside " + hour + " " + w + " " + damp + " " + rain + " " + sun, Check.outcome(() -> {
            program.outside(hour, w, damp, rain, sun);
            return 0;
        }), Check.outcome(() -> model.outside(hour, w, damp, rain, sun)));
    }

    private boolean inside(int hour, int w, int damp) {
        return compare("inside " + hour + " " + w + " " + damp, Check.outcome(() -> {
            program.inside(hour, w, damp);
            return 0;
        }), Check.outcome(() -> model.inside(hour, w, damp)));
    }

    private boolean water(int k, int much) {
        return compare("water " + k + " " + much,
            Check.outcome(() -> program.water(k, much)), Check.outcome(() -> model.water(k, much)));
    }

    private boolean leak(int k, int rate) {
        return compare("leak " + k + " " + rate,
            Check.outcome(() -> program.leak(k, rate)), Check.outcome(() -> model.leak(k, rate)));
    }

    private boolean growth(int damp, int from, int to, int more) {
        return compare("growth " + damp + " " + from + " " + to + " " + more,
            Check.outcome(() -> program.growth(damp, from, to, more)),
            Check.outcome(() -> model.growth(damp, from, to, more)));
    }

    private boolean run(int hours) {
        return compare("run " + hours, Check.outcome(() -> program.run(hours)), Check.outcome(() -> model.run(hours)));
    }

    private boolean told(int k, int what) {
        return compare("told " + k + " " + what,
            Check.outcome(() -> program.told(k, what)), Check.outcome(() -> model.told(k, what)));
    }

    private boolean balance(int what) {
        return compare("balance " + what,
            Check.outcome(() -> program.balance(what)), Check.outcome(() -> model.balance(what)));
    }

    private boolean order(int hours, int k) {
        return compare("order " + hours + " " + k,
            Check.outcome(() -> program.order(hours, k)), Check.outcome(() -> model.order(hours, k)));
    }
}
