import java.util.ArrayList;
import java.util.Arrays;
import java.util.List;
import java.util.function.Consumer;

/**
 * The boundary cases that promise 17 names, sentence by sentence. What is due is found by the other calls: a new wall
 * is built in each order and run, so these tests hold as far as run does.
 */
public final class OrderEdgesTest {
    private static final Check CHECK = new Check();

    public static void main(String[] args) {
        layersUnlikeInMaterialAlone();
        layersUnlikeInThicknessAlone();
        layersUnlikeInLeakAlone();
        oneToFiveCells();
        everyOrderOfFiveMayBeTheDriest();
        behindOneHourUpToFortyEight();
        theLastHourCountsAndNoneBehindIt();
        theSecondDayIsLikeTheFirst();
        ofSeveralTheFirst();
        allAlikeStandAsTheyAre();
        rowsAreOfTheCellsOfNow();
        beginsAtHourNought();
        beginsWithWaterNought();
        beginsWithNoLessThanNought();
        goesByTheClimateOfNow();
        nothingIsChanged();
        CHECK.end();
    }

    /** Layers (material, thickness, leak), and all that is told of the rest. */
    private record Plan(Consumer<WallDamp> rest, int[]... layers) {
        WallDamp built(int[] order) {
            WallDamp x = new WallDamp(layers.length);
            rest.accept(x);
            for (int place = 0; place < order.length; place++) {
                int[] layer = layers[order[place]];
                x.cell(place, layer[0], layer[1]);
                x.leak(place, layer[2]);
            }
            return x;
        }

        WallDamp asTheyStand() {
            return built(orders(layers.length).get(0));
        }

        int[] driest(int hours) {
            int[] best = null;
            long least = 0;
            for (int[] order : orders(layers.length)) {
                WallDamp x = built(order);
                x.run(hours);
                if (best == null || x.balance(0) < least) {
                    best = order;
                    least = x.balance(0);
                }
            }
            return best;
        }
    }

    /** All orders of n, the lesser first. */
    private static List<int[]> orders(int n) {
        List<int[]> all = new ArrayList<>();
        all.add(new int[0]);
        for (int length = 0; length < n; length++) {
            List<int[]> longer = new ArrayList<>();
            for (int[] begun : all) {
                for (int k = 0; k < n; k++) {
                    int next = k;
                    if (Arrays.stream(begun).noneMatch(one -> one == next)) {
                        int[] more = Arrays.copyOf(begun, length + 1);
                        more[length] = k;
                        longer.add(more);
                    }
                }
            }
            all = longer;
        }
        return all;
    }

    private static void row(String what, WallDamp x, int hours, int... due) {
        for (int k = 0; k < due.length; k++) {
            CHECK.same(what + ", " + hours + " hours, place " + k, x.order(hours, k), due[k]);
        }
    }

    /** The row is told too, so that a plan cannot become one in which every order is alike. */
    private static void asBuilt(String what, Plan plan, int hours, int... due) {
        int[] driest = plan.driest(hours);
        CHECK.holds(what + ", walls that were built: " + Arrays.toString(driest), Arrays.equals(driest, due));
        row(what, plan.asTheyStand(), hours, due);
    }

    /** Rain on the first hour, a warm damp room, a table that rises; materials unlike in all. */
    private static void lively(WallDamp x) {
        for (int material = 0; material < 6; material++) {
            x.curve(material, 200 + 70 * material, 2000 + 500 * material);
            x.curve(material, 2000 - 100 * material, 9000 + 100 * material);
            x.rates(material, 40 + 170 * (material * 2 % 5), 30 + 110 * (material * 3 % 5), 20 + 90 * (material % 4));
        }
        x.table(-1000, 200);
        x.table(0, 611);
        x.table(1000, 1228);
        x.table(2500, 3169);
        for (int hour = 0; hour < 24; hour++) {
            x.outside(hour, 70 * hour - 600, 5000 + 150 * hour, hour % 6 == 0 ? 40 + hour : 0, hour > 8 ? 20 * hour : 0);
            x.inside(hour, 2000, 4500 + 90 * hour);
        }
    }

    /** "the layers of the cells (material, ..." */
    private static void layersUnlikeInMaterialAlone() {
        Plan plan = new Plan(OrderEdgesTest::lively,
            new int[] {0, 10, 0}, new int[] {3, 10, 0}, new int[] {1, 10, 0}, new int[] {4, 10, 0});
        asBuilt("material", plan, 1, 3, 1, 2, 0);
        asBuilt("material", plan, 24, 0, 2, 3, 1);
    }

    /** "... thickness, ..." */
    private static void layersUnlikeInThicknessAlone() {
        Plan plan = new Plan(OrderEdgesTest::lively,
            new int[] {2, 1, 0}, new int[] {2, 400, 0}, new int[] {2, 30, 0}, new int[] {2, 1000, 0});
        asBuilt("thickness", plan, 24, 3, 1, 2, 0);
    }

    /** "... leak)" */
    private static void layersUnlikeInLeakAlone() {
        Plan plan = new Plan(OrderEdgesTest::lively,
            new int[] {2, 20, 1000}, new int[] {2, 20, 0}, new int[] {2, 20, 300}, new int[] {2, 20, 50});
        asBuilt("leak", plan, 24, 1, 3, 2, 0);
    }

    private static final int[][] FIVE = {{4, 40, 100}, {0, 5, 0}, {2, 300, 30}, {1, 60, 0}, {3, 12, 700}};

    private static void oneToFiveCells() {
        for (int cells = 1; cells <= 5; cells++) {
            Plan plan = new Plan(OrderEdgesTest::lively, Arrays.copyOf(FIVE, cells));
            row(cells + " cells", plan.asTheyStand(), 30, plan.driest(30));
        }
    }

    /** "Of all orders": the same five layers stand in each order at first, so that each is the driest once. */
    private static void everyOrderOfFiveMayBeTheDriest() {
        int[] driest = {0, 2, 3, 1, 4};
        asBuilt("five", new Plan(OrderEdgesTest::lively, FIVE), 36, driest);
        for (int[] due : orders(5)) {
            int[][] layers = new int[5][];
            for (int place = 0; place < 5; place++) {
                layers[due[place]] = FIVE[driest[place]];
            }
            row(Arrays.toString(due), new Plan(OrderEdgesTest::lively, layers).asTheyStand(), 36, due);
        }
    }

    /** "behind so many hours (1 .. 48)" */
    private static void behindOneHourUpToFortyEight() {
        Plan plan = new Plan(OrderEdgesTest::lively, Arrays.copyOf(FIVE, 4));
        WallDamp x = plan.asTheyStand();
        for (int hours = 1; hours <= 48; hours++) {
            row("four", x, hours, plan.driest(hours));
        }
        CHECK.illegalArgument("no hours", () -> x.order(0, 0));
        CHECK.illegalArgument("49 hours", () -> x.order(49, 0));
    }

    /** Two layers of which the inner one would take less of the rain of one hour. */
    private static WallDamp rainIn(int hour) {
        WallDamp x = new WallDamp(2);
        x.curve(0, 1000000, 10000);
        x.curve(1, 1000000, 10000);
        x.rates(0, 0, 900, 100);
        x.rates(1, 0, 100, 100);
        x.cell(1, 1, 10);
        x.outside(hour, 0, 0, 9, 0);
        return x;
    }

    private static void theLastHourCountsAndNoneBehindIt() {
        for (int hour = 0; hour < 24; hour++) {
            row("rain in hour " + hour, rainIn(hour), hour + 1, 1, 0);
            if (hour > 0) {
                row("rain behind hour " + hour, rainIn(hour), hour, 0, 1);
            }
        }
        row("48 hours", rainIn(23), 48, 1, 0);
    }

    /** Only the rain of two days fills the layer that takes more at a time but holds less. */
    private static void theSecondDayIsLikeTheFirst() {
        Plan two = new Plan(x -> {
            x.curve(0, 150, 1);
            x.curve(1, 1000, 1);
            x.rates(0, 0, 100, 100);
            x.rates(1, 0, 80, 100);
            x.outside(0, 0, 0, 100, 0);
        }, new int[] {0, 10, 0}, new int[] {1, 10, 0});
        asBuilt("80 are less than 100", two, 24, 1, 0);
        asBuilt("150 are less than 160", two, 25, 0, 1);
        asBuilt("150 are less than 160", two, 48, 0, 1);
    }

    /** "of several the first one, ... compared from the outside on, the lesser cell first" */
    private static void ofSeveralTheFirst() {
        Plan plan = new Plan(x -> {
            for (int material = 0; material < 5; material++) {
                x.curve(material, 1000000, 10000);
                x.rates(material, 0, material < 3 ? 1000 : 10, 100);
            }
            x.outside(0, 0, 0, 10, 0);
        }, new int[] {0, 10, 0}, new int[] {1, 10, 0}, new int[] {2, 10, 0}, new int[] {3, 10, 0}, new int[] {4, 10, 0});
        asBuilt("3 and 4 are alike outside, the rest anyhow", plan, 1, 3, 0, 1, 2, 4);
        Plan twins = new Plan(OrderEdgesTest::lively, FIVE[4], FIVE[1], FIVE[4], FIVE[1], FIVE[4]);
        row("like layers", twins.asTheyStand(), 20, twins.driest(20));
    }

    private static void allAlikeStandAsTheyAre() {
        int[] asTheyAre = {0, 1, 2, 3, 4};
        for (int cells = 1; cells <= 5; cells++) {
            row("all alike", new WallDamp(cells), 48, Arrays.copyOf(asTheyAre, cells));
            int[][] alike = new int[cells][];
            Arrays.fill(alike, FIVE[2]);
            row("all alike and wet", new Plan(OrderEdgesTest::lively, alike).asTheyStand(), 48,
                Arrays.copyOf(asTheyAre, cells));
        }
    }

    /** "orders being rows of the layers' cells of now" */
    private static void rowsAreOfTheCellsOfNow() {
        WallDamp x = rainIn(0);
        row("the inner layer outside", x, 1, 1, 0);
        x.cell(0, 1, 10);
        x.cell(1, 0, 10);
        row("the layers have changed places", x, 1, 0, 1);
        x.rates(0, 0, 50, 100);
        row("the rates have changed", x, 1, 1, 0);
    }

    /** "an own run that begins at hour 0" */
    private static void beginsAtHourNought() {
        WallDamp x = rainIn(5);
        for (int over = 1; over <= 30; over++) {
            x.run(1);
            row("with " + over + " hours over", x, 5, 0, 1);
            row("with " + over + " hours over", x, 6, 1, 0);
        }
    }

    /** "with water 0 everywhere" */
    private static void beginsWithWaterNought() {
        Plan plan = new Plan(OrderEdgesTest::lively, Arrays.copyOf(FIVE, 4));
        WallDamp x = plan.asTheyStand();
        int[] due = plan.driest(12);
        x.water(0, 1000);
        x.water(3, 900);
        row("with water", x, 12, due);
        x.run(7);
        row("behind hours", x, 12, due);
        row("behind another order", x, 12, due);
        WallDamp y = new WallDamp(2);
        y.curve(0, 1, 10000);
        y.curve(1, 1000, 10000);
        y.rates(0, 0, 1000, 100);
        y.cell(1, 1, 10);
        y.outside(0, 0, 0, 10, 0);
        row("room for the rain of one", y, 1, 1, 0);
    }

    /** A layer that is filled holds the same wherever it began, one that is not does not: here both hold 10 then. */
    private static void beginsWithNoLessThanNought() {
        Plan two = new Plan(x -> {
            x.curve(0, 10, 10000);
            x.curve(1, 1000, 10000);
            x.rates(0, 0, 100, 100);
            x.rates(1, 0, 50, 100);
            x.outside(0, 0, 0, 20, 0);
        }, new int[] {0, 10, 0}, new int[] {1, 10, 0});
        asBuilt("10 of 20 that find room, or 10", two, 1, 0, 1);
    }

    private static void goesByTheClimateOfNow() {
        WallDamp x = rainIn(0);
        row("rain", x, 1, 1, 0);
        x.outside(0, 0, 0, 0, 0);
        row("no rain", x, 1, 0, 1);
        x.leak(0, 1000);
        x.run(3);
        x.outside(0, 0, 0, 1, 0);
        row("rain again", x, 1, 1, 0);
    }

    /** "Nothing is changed." */
    private static void nothingIsChanged() {
        for (int k = 0; k < Walls.RICH_CELLS; k++) {
            WallDamp x = Walls.rich();
            x.order(48, k);
            CHECK.holds("before any hour", Walls.future(x, 4).equals(Walls.future(Walls.rich(), 4)));
            WallDamp y = Walls.richBehindHours();
            y.order(1, k);
            y.order(48, k);
            CHECK.holds("behind hours", Walls.future(y, 4).equals(Walls.future(Walls.richBehindHours(), 4)));
        }
    }
}
