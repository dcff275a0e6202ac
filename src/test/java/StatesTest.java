import java.util.function.Consumer;
import java.util.function.Supplier;

/**
 * "Illegal state: as told": each state in which a call is refused, the last state in which it is not, and that the
 * refused call changes nothing: made on one of two like walls, these answer alike from then on.
 */
public final class StatesTest {
    private static final Check CHECK = new Check();
    private static final int CELLS = Walls.RICH_CELLS;

    public static void main(String[] args) {
        curveHasSixBehindTheFirst();
        curveHeldIsNotAboveTheLastOnes();
        curveDampIsNotAboveTheLastOnes();
        curveWhenAnHourIsOver();
        cellWhenAnHourIsOver();
        tableHasEight();
        tableWarmthIsNotAboveTheLastOnes();
        tablePressureIsNotAboveTheLastOnes();
        thereAreSixRowsOfGrowth();
        thereWouldBeMoreThanTenThousandHours();
        thereAreMoreThanFiveCells();
        refusedHoursAreNotOver();
        ordersOwnHoursAreNotOver();
        noStateRefusesTheOtherCalls();
        CHECK.end();
    }

    private static void refused(String what, Supplier<WallDamp> made, int cells, Consumer<WallDamp> call) {
        WallDamp x = made.get();
        CHECK.illegalState(what, () -> call.accept(x));
        CHECK.holds(what + " changes nothing", Walls.future(x, cells).equals(Walls.future(made.get(), cells)));
    }

    private static WallDamp withCurve(int material, int behindTheFirst) {
        WallDamp x = Walls.rich();
        for (int i = 1; i <= behindTheFirst; i++) {
            CHECK.same("corner " + i + " behind the first", x.curve(material, 10 * i, 10 * i), i + 1);
        }
        return x;
    }

    private static void curveHasSixBehindTheFirst() {
        for (int material = 4; material <= 5; material++) {
            int full = material;
            CHECK.same("the sixth behind the first", withCurve(material, 5).curve(material, 1000000, 10000), 7);
            refused("a seventh behind the first", () -> withCurve(full, 6), CELLS, x -> x.curve(full, 1000000, 10000));
            CHECK.same("another material's curve is not full", withCurve(material, 6).curve(9 - material, 1, 1), 2);
        }
        WallDamp x = new WallDamp(1);
        for (int material = 0; material < 6; material++) {
            for (int i = 1; i <= 6; i++) {
                CHECK.same("material " + material + " has six behind the first", x.curve(material, i, i), i + 1);
            }
        }
        for (int material = 0; material < 6; material++) {
            int one = material;
            CHECK.illegalState("material " + material + " has no seventh", () -> x.curve(one, 7, 7));
        }
    }

    private static void curveHeldIsNotAboveTheLastOnes() {
        refused("held of the first corner", Walls::rich, CELLS, x -> x.curve(5, 0, 10000));
        refused("held of the last corner", Walls::rich, CELLS, x -> x.curve(0, 1000, 10000));
        refused("held below the last corner's", Walls::rich, CELLS, x -> x.curve(0, 999, 10000));
        refused("held of a corner before the last", Walls::rich, CELLS, x -> x.curve(0, 401, 10000));
        CHECK.same("held 1 above the first corner's", Walls.rich().curve(5, 1, 10000), 2);
        CHECK.same("held 1 above the last corner's", Walls.rich().curve(0, 1001, 10000), 4);
    }

    private static void curveDampIsNotAboveTheLastOnes() {
        refused("damp of the first corner", Walls::rich, CELLS, x -> x.curve(5, 1000000, 0));
        refused("damp of the last corner", Walls::rich, CELLS, x -> x.curve(0, 1000000, 9900));
        refused("damp below the last corner's", Walls::rich, CELLS, x -> x.curve(0, 1000000, 9899));
        refused("both as at the first corner", Walls::rich, CELLS, x -> x.curve(5, 0, 0));
        refused("both as at the last corner", Walls::rich, CELLS, x -> x.curve(0, 1000, 9900));
        CHECK.same("damp 1 above the first corner's", Walls.rich().curve(5, 1000000, 1), 2);
        CHECK.same("damp 1 above the last corner's", Walls.rich().curve(0, 1000000, 9901), 4);
    }

    private static WallDamp behindOneHour() {
        WallDamp x = Walls.rich();
        x.run(1);
        return x;
    }

    private static void curveWhenAnHourIsOver() {
        CHECK.same("no hour is over", Walls.rich().curve(4, 1, 1), 2);
        refused("one hour is over", StatesTest::behindOneHour, CELLS, x -> x.curve(4, 1, 1));
        refused("a day and more is over", Walls::richBehindHours, CELLS, x -> x.curve(0, 1000000, 10000));
    }

    private static void cellWhenAnHourIsOver() {
        WallDamp x = Walls.rich();
        x.cell(1, 3, 444);
        CHECK.same("no hour is over", x.told(1, 0), 0);
        refused("one hour is over", StatesTest::behindOneHour, CELLS, y -> y.cell(1, 3, 444));
        refused("one hour is over, all as it is", StatesTest::behindOneHour, CELLS, y -> y.cell(1, 0, 35));
        refused("a day and more is over", Walls::richBehindHours, CELLS, y -> y.cell(1, 3, 444));
    }

    private static WallDamp withTable(int corners) {
        WallDamp x = Walls.rich();
        for (int i = 4; i <= corners; i++) {
            CHECK.same("corner " + i + " of the table", x.table(2500 + i, 3100 + i), i);
        }
        return x;
    }

    private static void tableHasEight() {
        CHECK.same("the eighth", withTable(7).table(10000, 100000), 8);
        refused("a ninth", () -> withTable(8), CELLS, x -> x.table(10000, 100000));
        refused("a ninth, behind hours", () -> {
            WallDamp x = withTable(8);
            x.run(2);
            return x;
        }, CELLS, x -> x.table(9999, 99999));
    }

    private static void tableWarmthIsNotAboveTheLastOnes() {
        refused("the warmth of the last corner", Walls::rich, CELLS, x -> x.table(2500, 100000));
        refused("a warmth below the last corner's", Walls::rich, CELLS, x -> x.table(2499, 100000));
        refused("a warmth before the first corner's", Walls::rich, CELLS, x -> x.table(-5000, 100000));
        CHECK.same("a warmth 1 above the last corner's", Walls.rich().table(2501, 100000), 4);
        WallDamp x = new WallDamp(1);
        CHECK.same("the first may be anywhere", x.table(10000, 0), 1);
        CHECK.illegalState("and there may be no warmth above it", () -> x.table(10000, 100000));
    }

    private static void tablePressureIsNotAboveTheLastOnes() {
        refused("the pressure of the last corner", Walls::rich, CELLS, x -> x.table(10000, 3100));
        refused("a pressure below the last corner's", Walls::rich, CELLS, x -> x.table(10000, 3099));
        refused("both as at the last corner", Walls::rich, CELLS, x -> x.table(2500, 3100));
        CHECK.same("a pressure 1 above the last corner's", Walls.rich().table(10000, 3101), 4);
        WallDamp x = new WallDamp(1);
        CHECK.same("the first may be anywhere", x.table(-5000, 100000), 1);
        CHECK.illegalState("and there may be no pressure above it", () -> x.table(10000, 100000));
    }

    private static WallDamp withRows(int rows) {
        WallDamp x = Walls.rich();
        for (int i = 3; i <= rows; i++) {
            CHECK.same("row " + i, x.growth(500 * i, -5000, 10000, i), i);
        }
        return x;
    }

    private static void thereAreSixRowsOfGrowth() {
        CHECK.same("the sixth", withRows(5).growth(10000, 10000, 10000, 1000), 6);
        refused("a seventh", () -> withRows(6), CELLS, x -> x.growth(0, -5000, 10000, 1000));
        refused("a seventh like the first", () -> withRows(6), CELLS, x -> x.growth(3000, -500, 5000, 9));
    }

    private static WallDamp behind(int hours) {
        WallDamp x = Walls.rich();
        for (int i = 0; i < hours / 240; i++) {
            CHECK.same("hours over", x.run(240), 240 * i + 240);
        }
        if (hours % 240 > 0) {
            CHECK.same("hours over", x.run(hours % 240), hours);
        }
        return x;
    }

    private static void thereWouldBeMoreThanTenThousandHours() {
        CHECK.same("240 hours up to 10000", behind(9760).run(240), 10000);
        CHECK.same("1 hour up to 10000", behind(9999).run(1), 10000);
        refused("240 hours up to 10001", () -> behind(9761), CELLS, x -> x.run(240));
        refused("2 hours up to 10001", () -> behind(9999), CELLS, x -> x.run(2));
        refused("1 hour behind 10000", () -> behind(10000), CELLS, x -> x.run(1));
        refused("240 hours behind 10000", () -> behind(10000), CELLS, x -> x.run(240));
        WallDamp x = behind(9761);
        CHECK.illegalState("240 hours are too many", () -> x.run(240));
        CHECK.same("239 are not", x.run(239), 10000);
    }

    private static void thereAreMoreThanFiveCells() {
        for (int cells = 1; cells <= 13; cells++) {
            WallDamp x = new WallDamp(cells);
            for (int k = 0; k < Math.min(cells, 12); k++) {
                int place = k;
                if (cells <= 5) {
                    CHECK.same("order of " + cells + " cells", x.order(2, k), k);
                } else {
                    CHECK.illegalState("order of " + cells + " cells", () -> x.order(2, place));
                }
            }
        }
        refused("order of six", Walls::exhausted, 6, x -> x.order(1, 0));
    }

    private static void refusedHoursAreNotOver() {
        WallDamp x = Walls.rich();
        CHECK.illegalArgument("too few hours", () -> x.run(0));
        CHECK.illegalArgument("too many hours", () -> x.run(241));
        CHECK.same("a curve can still be told", x.curve(4, 1, 1), 2);
        x.cell(1, 4, 7);
        CHECK.same("no hour was over", x.run(1), 1);
    }

    private static void ordersOwnHoursAreNotOver() {
        WallDamp x = Walls.rich();
        x.order(48, 0);
        CHECK.same("a curve can still be told", x.curve(4, 1, 1), 2);
        x.cell(1, 4, 7);
        CHECK.same("no hour was over", x.run(1), 1);
    }

    /** Only curve, cell, table, growth, run and order name an illegal state. */
    private static void noStateRefusesTheOtherCalls() {
        WallDamp x = Walls.exhausted();
        x.rates(0, 1000, 1000, 1000);
        x.films(0, 0);
        x.outside(15, 100, 100, 100, 100);
        x.inside(15, 100, 100);
        CHECK.same("full", x.full(10000), 1600);
        x.water(5, 600);
        CHECK.same("water", x.water(5, 0), 600);
        CHECK.same("leak", x.leak(5, 9), 0);
        CHECK.same("told", x.told(5, 0), 0);
        CHECK.holds("balance", x.balance(5) <= 0);
        CHECK.holds("mould", x.mould() >= 0);
    }
}
