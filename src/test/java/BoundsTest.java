import java.util.ArrayList;
import java.util.List;
import java.util.function.Supplier;

/**
 * "Illegal argument: a number is out of its bounds, there is no such cell, material": every number of every call,
 * one below its least, its least, its most, one above its most, and far beyond, on walls before and behind hours.
 * "Of several exceptions the one named first is thrown; a call that throws changes nothing": each refused call is
 * made on one of two like walls, which must answer alike from then on.
 */
public final class BoundsTest {
    private static final Check CHECK = new Check();
    private static final int CELLS = Walls.RICH_CELLS;

    /** A call with its numbers in a row. */
    private interface Call {
        long on(WallDamp x, int[] a);
    }

    /** A call's name, numbers that are sound on every rich wall, and each number's least and most. */
    private record Bounds(String name, Call call, boolean refusedWhenExhausted, int[] sound, int[] least, int[] most) {
        Bounds(String name, Call call, boolean refusedWhenExhausted, int... threes) {
            this(name, call, refusedWhenExhausted, every(threes, 0), every(threes, 1), every(threes, 2));
        }

        private static int[] every(int[] threes, int at) {
            int[] one = new int[threes.length / 3];
            for (int i = 0; i < one.length; i++) {
                one[i] = threes[3 * i + at];
            }
            return one;
        }

        int[] with(int at, int number) {
            int[] numbers = sound.clone();
            numbers[at] = number;
            return numbers;
        }
    }

    public static void main(String[] args) {
        for (Bounds one : allCalls(CELLS, 80)) {
            refusedBeyondBounds(one, Walls::rich, "before any hour");
            takenAtBounds(one);
        }
        for (Bounds one : allCalls(CELLS, 80)) {
            refusedBeyondBounds(one, Walls::richBehindHours, "behind hours");
        }
        for (Bounds one : allCalls(6, 600)) {
            illegalArgumentComesFirst(one);
        }
        warmthsOfARowThatFall();
        CHECK.end();
    }

    /** Cell 3 (the last one) can hold 80 in a rich wall. Sound numbers are unlike those that the walls have. */
    private static List<Bounds> allCalls(int cells, int most) {
        int last = cells - 1;
        List<Bounds> all = new ArrayList<>();
        all.add(new Bounds("curve", (x, a) -> x.curve(a[0], a[1], a[2]), true,
            1, 0, 5, 700000, 0, 1000000, 10000, 0, 10000));
        all.add(new Bounds("rates", (x, a) -> nothing(() -> x.rates(a[0], a[1], a[2], a[3])), false,
            1, 0, 5, 777, 0, 1000, 555, 0, 1000, 11, 1, 1000));
        all.add(new Bounds("cell", (x, a) -> nothing(() -> x.cell(a[0], a[1], a[2])), true,
            1, 0, last, 3, 0, 5, 444, 1, 1000));
        all.add(new Bounds("table", (x, a) -> x.table(a[0], a[1]), true,
            2600, -5000, 10000, 4000, 0, 100000));
        all.add(new Bounds("full", (x, a) -> x.full(a[0]), false,
            100, -5000, 10000));
        all.add(new Bounds("films", (x, a) -> nothing(() -> x.films(a[0], a[1])), false,
            500, 0, 1000, 300, 0, 1000));
        all.add(new Bounds("outside", (x, a) -> nothing(() -> x.outside(a[0], a[1], a[2], a[3], a[4])), false,
            7, 0, 23, 3333, -5000, 5000, 10, 0, 10000, 999, 0, 1000, 888, 0, 1000));
        all.add(new Bounds("inside", (x, a) -> nothing(() -> x.inside(a[0], a[1], a[2])), false,
            7, 0, 23, -3333, -5000, 5000, 9999, 0, 10000));
        all.add(new Bounds("water", (x, a) -> x.water(a[0], a[1]), false,
            last, 0, last, 33, 0, most));
        all.add(new Bounds("leak", (x, a) -> x.leak(a[0], a[1]), false,
            2, 0, last, 777, 0, 1000));
        all.add(new Bounds("growth", (x, a) -> x.growth(a[0], a[1], a[2], a[3]), true,
            0, 0, 10000, -5000, -5000, 10000, 10000, -5000, 10000, 777, 1, 1000));
        all.add(new Bounds("run", (x, a) -> x.run(a[0]), true,
            3, 1, 240));
        all.add(new Bounds("told", (x, a) -> x.told(a[0], a[1]), false,
            2, 0, last, 2, 0, 5));
        all.add(new Bounds("balance", (x, a) -> x.balance(a[0]), false,
            3, 0, 5));
        all.add(new Bounds("order", (x, a) -> x.order(a[0], a[1]), true,
            5, 1, 48, 2, 0, last));
        return all;
    }

    private static long nothing(Runnable call) {
        call.run();
        return 0;
    }

    private static int[] beyond(Bounds one, int at) {
        return new int[] {one.least()[at] - 1, one.most()[at] + 1, Integer.MIN_VALUE, Integer.MAX_VALUE};
    }

    private static String text(Bounds one, int[] numbers, String when) {
        StringBuilder text = new StringBuilder(one.name()).append('(');
        String separator = "";
        for (int number : numbers) {
            text.append(separator).append(number);
            separator = ", ";
        }
        return text.append(") ").append(when).toString();
    }

    private static void refusedBeyondBounds(Bounds one, Supplier<WallDamp> made, String when) {
        String untouched = Walls.future(made.get(), CELLS);
        for (int at = 0; at < one.sound().length; at++) {
            for (int number : beyond(one, at)) {
                int[] numbers = one.with(at, number);
                WallDamp x = made.get();
                CHECK.illegalArgument(text(one, numbers, when), () -> one.call().on(x, numbers));
                CHECK.holds(text(one, numbers, when) + " changes nothing", Walls.future(x, CELLS).equals(untouched));
            }
        }
    }

    /** A number at its bound is no illegal argument; where a corner must rise it may be an illegal state. */
    private static void takenAtBounds(Bounds one) {
        boolean mustRise = one.name().equals("curve") || one.name().equals("table");
        for (int at = 0; at < one.sound().length; at++) {
            for (int number : new int[] {one.least()[at], one.most()[at]}) {
                int[] numbers = one.with(at, number);
                String got = Check.outcome(() -> one.call().on(Walls.rich(), numbers));
                boolean taken = !got.startsWith("throws.");
                boolean refusedAsDue = mustRise && got.equals("throws.IllegalStateException");
                CHECK.holds(text(one, numbers, "is within bounds, answered " + got), taken || refusedAsDue);
            }
        }
    }

    private static void illegalArgumentComesFirst(Bounds one) {
        WallDamp x = Walls.exhausted();
        String before = Walls.portrait(x, 6);
        String got = Check.outcome(() -> one.call().on(x, one.sound()));
        CHECK.holds(text(one, one.sound(), "on an exhausted wall answered " + got),
            got.equals("throws.IllegalStateException") == one.refusedWhenExhausted());
        WallDamp y = Walls.exhausted();
        for (int at = 0; at < one.sound().length; at++) {
            for (int number : beyond(one, at)) {
                int[] numbers = one.with(at, number);
                CHECK.illegalArgument(text(one, numbers, "on an exhausted wall"), () -> one.call().on(y, numbers));
            }
        }
        CHECK.holds(one.name() + " refused on an exhausted wall changes nothing", Walls.portrait(y, 6).equals(before));
    }

    /** "Warmths -5000 .. 10000, the first not above the second": each within its bounds, but the wrong way round. */
    private static void warmthsOfARowThatFall() {
        int[][] falling = {{1, 0}, {0, -1}, {-4999, -5000}, {10000, 9999}, {10000, -5000}};
        String untouched = Walls.future(Walls.rich(), CELLS);
        for (int[] row : falling) {
            WallDamp x = Walls.rich();
            String text = "growth from " + row[0] + " to " + row[1];
            CHECK.illegalArgument(text, () -> x.growth(0, row[0], row[1], 5));
            CHECK.holds(text + " changes nothing", Walls.future(x, CELLS).equals(untouched));
            WallDamp y = Walls.exhausted();
            CHECK.illegalArgument(text + " with six rows", () -> y.growth(0, row[0], row[1], 5));
        }
        int[] even = {-5000, -1, 0, 1, 10000};
        for (int warmth : even) {
            CHECK.same("growth from and to " + warmth, new WallDamp(1).growth(0, warmth, warmth, 5), 1);
        }
    }
}
