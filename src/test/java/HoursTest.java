/** Promises 13 to 16: what hours do, worked out by hand. */
public final class HoursTest {
    private static final Check CHECK = new Check();

    public static void main(String[] args) {
        promise13Run();
        promise13Warmths();
        promise13VapourAndLiquidTogether();
        promise13FlowsWithTheAir();
        promise13MoreWouldLeaveThanThereIs();
        promise13MoreWouldComeThanThereIsRoom();
        promise13RoomIsThatOfTheBeginning();
        promise13LeavingIsLimitedBeforeComing();
        promise14Told();
        promise14Frost();
        promise14FrostGoesByTheDampBehindTheHour();
        promise15Balance();
        promise16Mould();
        promise16MouldGoesByTheDampBehindTheHour();
        CHECK.end();
    }

    private static void promise13Run() {
        WallDamp x = new WallDamp(12);
        CHECK.illegalArgument("run(0)", () -> x.run(0));
        CHECK.illegalArgument("run(-1)", () -> x.run(-1));
        CHECK.illegalArgument("run(241)", () -> x.run(241));
        CHECK.same("run(1)", x.run(1), 1);
        for (int i = 1; i <= 41; i++) {
            CHECK.same("run(240)", x.run(240), 1 + i * 240);
        }
        CHECK.illegalState("run beyond 10000", () -> x.run(160));
        CHECK.illegalArgument("illegal argument comes first", () -> x.run(241));
        CHECK.same("run to 10000", x.run(159), 10000);
        CHECK.illegalState("run(1) behind 10000", () -> x.run(1));
    }

    private static void promise13Warmths() {
        WallDamp x = new WallDamp(1);
        x.inside(0, -1, 0);
        x.run(1);
        CHECK.same("half of -1, rounded down", x.told(0, 2), -1);
        WallDamp y = new WallDamp(1);
        y.outside(0, 100, 0, 0, 7);
        y.inside(0, 5000, 0);
        y.films(0, 0);
        y.cell(0, 0, 1);
        y.rates(0, 0, 0, 101);
        y.run(1);
        CHECK.same("the face's warmth alone if ALL is 0", y.told(0, 2), 107);
        WallDamp z = new WallDamp(2);
        z.films(3, 4);
        z.cell(0, 0, 1000);
        z.rates(0, 0, 0, 1);
        z.inside(0, 5000, 0);
        z.outside(0, -5000, 0, 0, 0);
        z.run(1);
        CHECK.same("great resistances, outer", z.told(0, 2), -5000 + (int) (10000L * 100006 / 202014));
        CHECK.same("great resistances, inner", z.told(1, 2), -5000 + (int) (10000L * 201006 / 202014));
    }

    private static void promise13VapourAndLiquidTogether() {
        WallDamp z = Walls.plain(2, 10, 1000);
        z.outside(0, 0, 500, 0, 0);
        z.water(0, 300);
        z.water(1, 500);
        z.inside(0, 0, 500);
        z.run(1);
        CHECK.waters("vapour and liquid together", z, 300 + 2 + 200 + 2, 500 - 200 - 2);
    }

    private static void promise13FlowsWithTheAir() {
        WallDamp x = Walls.plain(1, 500, 0);
        Walls.air(x, 0, 4001);
        x.water(0, 999);
        x.run(1);
        CHECK.same("out by half, rounded to 0", x.balance(3), 499);
        CHECK.same("from the inside by half, rounded to 0", x.balance(2), 1501);
        CHECK.waters("both at once", x, 999 - 499 + 1501);
        WallDamp y = Walls.plain(1, 500, 1000);
        y.outside(0, 0, 0, 30, 0);
        y.water(0, 1000);
        y.run(1);
        CHECK.same("rain comes in", y.balance(1), 300);
        CHECK.same("while vapour goes out", y.balance(3), 500);
        CHECK.same("and in", y.balance(4), 500);
        CHECK.waters("rain and vapour", y, 300);
        WallDamp z = new WallDamp(1);
        z.curve(0, 100000, 10000);
        z.rates(0, 1000, 0, 100);
        z.table(0, 100);
        z.table(1000, 1100);
        z.outside(0, 0, 10000, 0, 1000);
        z.run(1);
        CHECK.same("pressure outside is at the face's warmth", z.balance(1), 1100);
    }

    private static void promise13MoreWouldLeaveThanThereIs() {
        WallDamp x = new WallDamp(3);
        x.curve(0, 10, 10000);
        x.rates(0, 0, 300, 100);
        x.water(1, 9);
        x.run(1);
        CHECK.waters("half of 9 each way, rounded down", x, 4, 1, 4);
        WallDamp y = new WallDamp(2);
        y.curve(0, 10, 10000);
        y.table(0, 1000);
        y.rates(0, 1000, 1000, 100);
        y.water(0, 10);
        y.run(1);
        CHECK.waters("1000 out, 11000 inward", y, 1, 9);
        CHECK.same("what went out", y.balance(3), 0);
    }

    private static void promise13MoreWouldComeThanThereIsRoom() {
        WallDamp x = new WallDamp(1);
        x.curve(0, 3, 10000);
        x.rates(0, 100, 1000, 100);
        x.table(0, 100);
        x.outside(0, 0, 10000, 3, 0);
        x.inside(0, 0, 2000);
        x.leak(0, 900);
        x.run(1);
        CHECK.same("of vapour 10, rain 30, vapour 2, leak 18 each its own part: outside", x.balance(1), 1);
        CHECK.same("of vapour 10, rain 30, vapour 2, leak 18 each its own part: inside", x.balance(2), 0);
        WallDamp y = new WallDamp(1);
        y.curve(0, 6, 10000);
        y.rates(0, 100, 1000, 100);
        y.table(0, 100);
        y.outside(0, 0, 10000, 2, 0);
        y.run(1);
        CHECK.same("of vapour 10 and rain 20: 2 and 4", y.balance(1), 6);
        y.water(0, 1);
        y.run(24);
        CHECK.same("of room 5 by 8 and 20: 1 and 3", y.balance(1), 6 + 4);
    }

    private static void promise13RoomIsThatOfTheBeginning() {
        WallDamp x = new WallDamp(1);
        x.curve(0, 100, 10000);
        x.rates(0, 10, 1000, 100);
        x.table(0, 1000);
        x.outside(0, 0, 0, 500, 0);
        x.water(0, 100);
        x.run(1);
        CHECK.waters("a full cell gives and takes nothing", x, 80);
        CHECK.same("no rain came", x.balance(1), 0);
        x.run(23);
        int before = x.told(0, 0);
        x.run(1);
        CHECK.same("rain up to the room that was", x.balance(1), 100 - before);
    }

    private static void promise13LeavingIsLimitedBeforeComing() {
        WallDamp x = new WallDamp(2);
        x.curve(0, 1000, 10000);
        x.curve(1, 10, 1000);
        x.rates(0, 0, 1000, 100);
        x.rates(1, 0, 1000, 100);
        x.table(0, 8);
        x.cell(1, 1, 10);
        x.leak(1, 1000);
        x.inside(0, 0, 10000);
        x.water(0, 8);
        x.run(1);
        CHECK.waters("80 are limited to 8, then 8 and 8 share the room", x, 3, 10);
        CHECK.same("what leaked", x.balance(2), 5);
    }

    private static void promise14Told() {
        WallDamp x = Walls.plain(2, 0, 1000);
        CHECK.illegalArgument("cell -1", () -> x.told(-1, 0));
        CHECK.illegalArgument("cell 2", () -> x.told(2, 0));
        CHECK.illegalArgument("what -1", () -> x.told(0, -1));
        CHECK.illegalArgument("what 6", () -> x.told(0, 6));
        x.water(0, 800);
        x.inside(0, 400, 0);
        CHECK.same("warmth before any hour", x.told(1, 2), 0);
        CHECK.same("greatest damp before any hour", x.told(0, 5), 0);
        CHECK.same("damp", x.told(0, 1), 800);
        x.run(1);
        CHECK.same("warmth in the latest hour", x.told(1, 2), 250);
        CHECK.same("damp behind it", x.told(0, 1), 0);
        CHECK.same("greatest damp behind an hour, outer", x.told(0, 5), 0);
        CHECK.same("greatest damp behind an hour, inner", x.told(1, 5), 800);
        x.water(0, 10000);
        x.water(1, 0);
        CHECK.same("water that is told is no hour", x.told(0, 5), 0);
        x.run(1);
        CHECK.same("warmth of the hour that is over", x.told(1, 2), 0);
        CHECK.same("greatest damp rises", x.told(1, 5), 10000);
        x.water(1, 0);
        x.run(1);
        CHECK.same("greatest damp stays", x.told(1, 5), 10000);
    }

    private static void promise14Frost() {
        WallDamp x = new WallDamp(2);
        x.curve(0, 10000, 10000);
        x.films(0, 0);
        x.water(0, 9000);
        x.water(1, 8999);
        int[] outer = {0, -1, 0, -1, -1, 5};
        for (int hour = 0; hour < outer.length; hour++) {
            x.outside(hour, outer[hour], 0, 0, 0);
            x.inside(hour, outer[hour], 0);
        }
        int[] frozen = {0, 1, 0, 1, 1, 0};
        int[] passes = {0, 0, 1, 1, 1, 2};
        for (int hour = 0; hour < outer.length; hour++) {
            x.run(1);
            CHECK.same("frozen in hour " + hour, x.told(0, 4), frozen[hour]);
            CHECK.same("passes in hour " + hour, x.told(0, 3), passes[hour]);
            CHECK.same("too dry to freeze in hour " + hour, x.told(1, 4), 0);
        }
        x.run(20);
        CHECK.same("frozen again on the next day", x.told(0, 4), 1);
        x.water(0, 0);
        x.films(0, 1);
        x.outside(2, -3, 0, 0, 0);
        x.inside(2, -3, 0);
        x.run(1);
        CHECK.same("a dry one stays frozen while it is cold", x.told(0, 4), 1);
        x.run(3);
        CHECK.same("and thaws dry", x.told(0, 3), 3);
    }

    private static void promise14FrostGoesByTheDampBehindTheHour() {
        WallDamp x = Walls.plain(2, 0, 1000);
        x.outside(0, -100, 0, 0, 0);
        x.inside(0, -100, 0);
        x.water(0, 9000);
        x.run(1);
        CHECK.same("the cell that lost its water", x.told(0, 4), 0);
        CHECK.same("the cell that it came to", x.told(1, 4), 1);
    }

    private static void promise15Balance() {
        WallDamp x = Walls.plain(3, 700, 300);
        CHECK.illegalArgument("what -1", () -> x.balance(-1));
        CHECK.illegalArgument("what 6", () -> x.balance(6));
        for (int hour = 0; hour < 24; hour++) {
            x.outside(hour, hour * 100 - 800, hour * 400, hour % 5 * 90, hour * 7);
            x.inside(hour, 2000, 10000 - hour * 400);
        }
        x.leak(1, 333);
        x.water(2, 8000);
        for (int i = 0; i < 35; i++) {
            x.run(1 + i % 5);
            x.water(i % 3, i * 100);
            long parts = x.balance(5) + x.balance(1) + x.balance(2) - x.balance(3) - x.balance(4);
            CHECK.same("none of the water lost", x.balance(0), parts);
            CHECK.same("all water", x.balance(0), x.told(0, 0) + x.told(1, 0) + x.told(2, 0));
        }
        for (int what = 1; what <= 4; what++) {
            CHECK.holds("something came and went each way: " + what, x.balance(what) > 0);
        }
    }

    private static void promise16Mould() {
        WallDamp x = new WallDamp(2);
        x.curve(0, 10000, 10000);
        x.water(1, 5000);
        x.growth(5001, -5000, 10000, 1000);
        x.growth(5000, 1, 10000, 500);
        x.growth(5000, -5000, -1, 300);
        x.growth(5000, 0, 0, 20);
        x.growth(0, 0, 0, 1);
        x.run(1);
        CHECK.same("the first row that fits", x.mould(), 20);
        x.water(1, 4999);
        x.run(1);
        CHECK.same("a damper row fits no more", x.mould(), 21);
        for (int hour = 0; hour < 24; hour++) {
            x.inside(hour, 10, 0);
            x.outside(hour, 10, 0, 0, 0);
        }
        x.run(5);
        CHECK.same("no row fits: 1 less each hour", x.mould(), 16);
        x.run(20);
        CHECK.same("not below 0", x.mould(), 0);
        x.water(1, 10000);
        x.run(240);
        CHECK.same("240 hours of 1000", x.mould(), 240000);
        x.run(240);
        x.run(240);
        x.run(240);
        x.run(39);
        CHECK.same("999 hours of 1000", x.mould(), 999000);
        x.water(1, 0);
        x.run(1);
        CHECK.same("one less", x.mould(), 998999);
        x.water(1, 10000);
        x.run(2);
        CHECK.same("at most 1000000", x.mould(), 1000000);
        x.run(1);
        CHECK.same("still", x.mould(), 1000000);
    }

    private static void promise16MouldGoesByTheDampBehindTheHour() {
        WallDamp x = Walls.plain(2, 0, 1000);
        x.growth(600, -5000, 10000, 7);
        x.water(0, 600);
        x.run(1);
        CHECK.same("the last cell's damp as it has become", x.mould(), 7);
        x.run(1);
        CHECK.same("and when the water has gone on", x.mould(), 6);
    }
}
