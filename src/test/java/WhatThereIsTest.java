/** Promises 1 to 12: what can be told to a new object, at the edges and beyond them. */
public final class WhatThereIsTest {
    private static final Check CHECK = new Check();

    public static void main(String[] args) {
        promise1NewObject();
        promise2Curve();
        promise2CurveDamp();
        promise3Rates();
        promise4Cell();
        promise5Table();
        promise6Full();
        promise7Films();
        promise8Outside();
        promise9Inside();
        promise10Water();
        promise11Leak();
        promise12Growth();
        CHECK.end();
    }

    private static void promise1NewObject() {
        int[] asked = {Integer.MIN_VALUE, -1, 0, 1, 2, 11, 12, 13, Integer.MAX_VALUE};
        int[] made = {1, 1, 1, 1, 2, 11, 12, 12, 12};
        for (int i = 0; i < asked.length; i++) {
            WallDamp x = new WallDamp(asked[i]);
            int n = made[i];
            for (int what = 0; what < 6; what++) {
                CHECK.same("new told(0, " + what + ")", x.told(0, what), 0);
                CHECK.same("new told(last, " + what + ")", x.told(n - 1, what), 0);
                CHECK.same("new balance(" + what + ")", x.balance(what), 0);
            }
            CHECK.illegalArgument("told behind the last of " + asked[i], () -> x.told(n, 0));
            CHECK.illegalArgument("told before the first", () -> x.told(-1, 0));
            CHECK.same("new mould()", x.mould(), 0);
            CHECK.same("new run(1)", x.run(1), 1);
        }
        CHECK.same("NONE", WallDamp.NONE, -1);
        CHECK.same("a new table", new WallDamp(1).full(0), 0);
        CHECK.same("a new leak", new WallDamp(1).leak(0, 0), 0);
    }

    private static void promise2Curve() {
        WallDamp x = new WallDamp(2);
        CHECK.illegalArgument("material -1", () -> x.curve(-1, 1, 1));
        CHECK.illegalArgument("material 6", () -> x.curve(6, 1, 1));
        CHECK.illegalArgument("held -1", () -> x.curve(0, -1, 1));
        CHECK.illegalArgument("held 1000001", () -> x.curve(0, 1000001, 1));
        CHECK.illegalArgument("damp -1", () -> x.curve(0, 1, -1));
        CHECK.illegalArgument("damp 10001", () -> x.curve(0, 1, 10001));
        CHECK.illegalState("held of the first corner", () -> x.curve(0, 0, 1));
        CHECK.illegalState("damp of the first corner", () -> x.curve(0, 1, 0));
        for (int i = 1; i <= 6; i++) {
            CHECK.same("corner " + i, x.curve(0, i, i), i + 1);
        }
        CHECK.illegalState("a seventh behind the first", () -> x.curve(0, 1000, 1000));
        CHECK.illegalArgument("illegal argument comes first", () -> x.curve(0, 1000, 10001));
        CHECK.same("each material has its own", x.curve(5, 1000000, 10000), 2);
        CHECK.illegalState("not above in held", () -> x.curve(5, 1000000, 10000));
        CHECK.same("material 3", x.curve(3, 10, 20), 2);
        CHECK.illegalState("the same held", () -> x.curve(3, 10, 21));
        CHECK.illegalState("the same damp", () -> x.curve(3, 11, 20));
        x.run(1);
        CHECK.illegalState("an hour is over", () -> x.curve(3, 11, 21));
        CHECK.illegalArgument("an hour is over, and a wrong number", () -> x.curve(7, 11, 21));
    }

    private static void promise2CurveDamp() {
        WallDamp x = new WallDamp(1);
        x.curve(0, 3, 1000);
        x.curve(0, 1000000, 10000);
        int[] held = {0, 1, 2, 3, 4, 114, 115, 999999, 1000000};
        int[] damp = {0, 333, 666, 1000, 1000, 1000, 1001, 9999, 10000};
        for (int i = 0; i < held.length; i++) {
            x.water(0, held[i]);
            CHECK.same("damp of " + held[i], x.told(0, 1), damp[i]);
        }
        WallDamp y = new WallDamp(1);
        y.curve(0, 10, 100);
        y.water(0, 10);
        y.curve(0, 20, 10000);
        CHECK.same("water at a corner in between", y.told(0, 1), 100);
        y.water(0, 11);
        CHECK.same("water behind that corner", y.told(0, 1), 1090);
    }

    private static void promise3Rates() {
        WallDamp x = new WallDamp(2);
        CHECK.illegalArgument("material -1", () -> x.rates(-1, 0, 0, 1));
        CHECK.illegalArgument("material 6", () -> x.rates(6, 0, 0, 1));
        CHECK.illegalArgument("vapour -1", () -> x.rates(0, -1, 0, 1));
        CHECK.illegalArgument("vapour 1001", () -> x.rates(0, 1001, 0, 1));
        CHECK.illegalArgument("liquid -1", () -> x.rates(0, 0, -1, 1));
        CHECK.illegalArgument("liquid 1001", () -> x.rates(0, 0, 1001, 1));
        CHECK.illegalArgument("leads 0", () -> x.rates(0, 0, 0, 0));
        CHECK.illegalArgument("leads 1001", () -> x.rates(0, 0, 0, 1001));
        x.rates(0, 1000, 1000, 1000);
        x.rates(5, 0, 0, 1);
        liquidGoesByTheLesserNumber();
        vapourGoesByTheLesserNumber();
        leadsTellTheWarmths();
        x.run(1);
        x.rates(0, 1, 1, 1);
    }

    private static void liquidGoesByTheLesserNumber() {
        WallDamp x = new WallDamp(2);
        x.curve(0, 10000, 10000);
        x.curve(1, 10000, 10000);
        x.rates(0, 0, 300, 100);
        x.rates(1, 0, 299, 100);
        x.cell(1, 1, 10);
        x.water(0, 1000);
        x.run(1);
        CHECK.same("liquid by 299, outer cell", x.told(0, 0), 701);
        CHECK.same("liquid by 299, inner cell", x.told(1, 0), 299);
    }

    private static void vapourGoesByTheLesserNumber() {
        for (int inner = 0; inner < 2; inner++) {
            WallDamp x = new WallDamp(2);
            x.curve(0, 10000, 10000);
            x.curve(1, 10000, 10000);
            x.table(0, 10000);
            x.rates(0, 200, 0, 100);
            x.rates(1, 300, 0, 100);
            x.cell(inner, 1, 10);
            x.outside(0, 0, 1000, 0, 0);
            x.water(0, 1000);
            x.run(1);
            CHECK.same("vapour by 200, outer cell", x.told(0, 0), 800);
            CHECK.same("vapour by 200, inner cell", x.told(1, 0), 200);
        }
    }

    private static void leadsTellTheWarmths() {
        WallDamp x = new WallDamp(2);
        x.films(0, 0);
        x.cell(1, 1, 10);
        x.inside(0, 1000, 0);
        x.inside(1, 1000, 0);
        x.run(1);
        CHECK.same("leads 100 and 100", x.told(0, 2), 250);
        CHECK.same("leads 100 and 100, inner", x.told(1, 2), 750);
        x.rates(0, 0, 0, 300);
        x.run(1);
        CHECK.same("resistances 3 and 10", x.told(0, 2), 115);
        CHECK.same("resistances 3 and 10, inner", x.told(1, 2), 615);
    }

    private static void promise4Cell() {
        WallDamp x = new WallDamp(3);
        CHECK.illegalArgument("cell -1", () -> x.cell(-1, 0, 1));
        CHECK.illegalArgument("cell 3", () -> x.cell(3, 0, 1));
        CHECK.illegalArgument("material -1", () -> x.cell(0, -1, 1));
        CHECK.illegalArgument("material 6", () -> x.cell(0, 6, 1));
        CHECK.illegalArgument("thickness 0", () -> x.cell(0, 0, 0));
        CHECK.illegalArgument("thickness 1001", () -> x.cell(0, 0, 1001));
        x.curve(0, 500, 500);
        x.water(0, 400);
        x.water(1, 20);
        x.leak(0, 7);
        CHECK.illegalArgument("a throw keeps the water", () -> x.cell(0, 0, 1001));
        CHECK.same("water is kept", x.told(0, 0), 400);
        x.cell(0, 5, 1000);
        CHECK.same("water is 0 then", x.told(0, 0), 0);
        CHECK.same("and START less", x.balance(5), 20);
        CHECK.same("the leak stays", x.leak(0, 7), 7);
        x.cell(1, 0, 10);
        CHECK.same("water is 0 with the same material too", x.balance(0), 0);
        CHECK.same("START", x.balance(5), 0);
        x.run(1);
        CHECK.illegalState("an hour is over", () -> x.cell(0, 0, 1));
        CHECK.illegalArgument("an hour is over, and a wrong cell", () -> x.cell(3, 0, 1));
        CHECK.illegalArgument("an hour is over, and a wrong material", () -> x.cell(0, 6, 1));
        CHECK.illegalArgument("an hour is over, and a wrong thickness", () -> x.cell(0, 0, 1001));
    }

    private static void promise5Table() {
        WallDamp x = new WallDamp(1);
        CHECK.illegalArgument("warmth -5001", () -> x.table(-5001, 1));
        CHECK.illegalArgument("warmth 10001", () -> x.table(10001, 1));
        CHECK.illegalArgument("pressure -1", () -> x.table(0, -1));
        CHECK.illegalArgument("pressure 100001", () -> x.table(0, 100001));
        CHECK.same("the least corner", x.table(-5000, 0), 1);
        CHECK.illegalState("the same warmth", () -> x.table(-5000, 1));
        CHECK.illegalState("the same pressure", () -> x.table(-4999, 0));
        x.run(1);
        for (int i = 2; i <= 7; i++) {
            CHECK.same("corner " + i, x.table(i, i), i);
        }
        CHECK.same("the greatest corner", x.table(10000, 100000), 8);
        CHECK.illegalState("a ninth", () -> x.table(10000, 100000));
        CHECK.illegalArgument("illegal argument comes first", () -> x.table(10001, 100000));
        WallDamp y = new WallDamp(1);
        for (int i = 1; i <= 8; i++) {
            y.table(i, i);
        }
        CHECK.illegalState("a ninth that would be above", () -> y.table(9, 9));
    }

    private static void promise6Full() {
        WallDamp x = new WallDamp(1);
        CHECK.illegalArgument("warmth -5001", () -> x.full(-5001));
        CHECK.illegalArgument("warmth 10001", () -> x.full(10001));
        CHECK.same("without corners", x.full(0), 0);
        x.table(-10, 5);
        CHECK.same("one corner, before", x.full(-5000), 5);
        CHECK.same("one corner, there", x.full(-10), 5);
        CHECK.same("one corner, behind", x.full(10000), 5);
        x.table(-7, 15);
        x.table(9993, 100000);
        int[] warmth = {-5000, -10, -9, -8, -7, -6, 4993, 9992, 9993, 9994, 10000};
        int[] full = {5, 5, 8, 11, 15, 24, 50007, 99990, 100000, 100000, 100000};
        for (int i = 0; i < warmth.length; i++) {
            CHECK.same("full(" + warmth[i] + ")", x.full(warmth[i]), full[i]);
        }
    }

    private static void promise7Films() {
        WallDamp x = new WallDamp(1);
        CHECK.illegalArgument("outer -1", () -> x.films(-1, 0));
        CHECK.illegalArgument("outer 1001", () -> x.films(1001, 0));
        CHECK.illegalArgument("inner -1", () -> x.films(0, -1));
        CHECK.illegalArgument("inner 1001", () -> x.films(0, 1001));
        for (int hour = 0; hour < 4; hour++) {
            x.inside(hour, 1000, 0);
        }
        x.run(1);
        CHECK.same("films 10 and 10 at first", x.told(0, 2), 500);
        x.films(1000, 0);
        x.run(1);
        CHECK.same("films 1000 and 0", x.told(0, 2), 1000 * 2010 / 2020);
        x.films(0, 1000);
        x.run(1);
        CHECK.same("films 0 and 1000", x.told(0, 2), 1000 * 10 / 2020);
        x.films(0, 0);
        x.rates(0, 0, 0, 1000);
        x.run(1);
        CHECK.same("films 0 and 0, resistance 1", x.told(0, 2), 500);
    }

    private static void promise8Outside() {
        WallDamp x = new WallDamp(1);
        CHECK.illegalArgument("hour -1", () -> x.outside(-1, 0, 0, 0, 0));
        CHECK.illegalArgument("hour 24", () -> x.outside(24, 0, 0, 0, 0));
        CHECK.illegalArgument("warmth -5001", () -> x.outside(0, -5001, 0, 0, 0));
        CHECK.illegalArgument("warmth 5001", () -> x.outside(0, 5001, 0, 0, 0));
        CHECK.illegalArgument("damp -1", () -> x.outside(0, 0, -1, 0, 0));
        CHECK.illegalArgument("damp 10001", () -> x.outside(0, 0, 10001, 0, 0));
        CHECK.illegalArgument("rain -1", () -> x.outside(0, 0, 0, -1, 0));
        CHECK.illegalArgument("rain 1001", () -> x.outside(0, 0, 0, 1001, 0));
        CHECK.illegalArgument("sun -1", () -> x.outside(0, 0, 0, 0, -1));
        CHECK.illegalArgument("sun 1001", () -> x.outside(0, 0, 0, 0, 1001));
        x.curve(0, 1000000, 10000);
        x.rates(0, 0, 333, 100);
        x.outside(0, 5000, 10000, 1000, 1000);
        x.outside(23, -5000, 0, 7, 0);
        x.run(1);
        CHECK.same("the face's warmth has the sun", x.told(0, 2), 3000);
        CHECK.same("rain comes by the liquid number", x.told(0, 0), 3330);
        x.run(22);
        CHECK.same("no warmth was told", x.told(0, 2), 0);
        x.run(1);
        CHECK.same("the last hour of the day", x.told(0, 2), -2500);
        CHECK.same("rain rounded down", x.told(0, 0), 3330 + 23);
        x.run(1);
        CHECK.same("the day comes again", x.balance(1), 3330 + 23 + 3330);
        CHECK.same("its warmth too", x.told(0, 2), 3000);
    }

    private static void promise9Inside() {
        WallDamp x = new WallDamp(1);
        CHECK.illegalArgument("hour -1", () -> x.inside(-1, 0, 0));
        CHECK.illegalArgument("hour 24", () -> x.inside(24, 0, 0));
        CHECK.illegalArgument("warmth -5001", () -> x.inside(0, -5001, 0));
        CHECK.illegalArgument("warmth 5001", () -> x.inside(0, 5001, 0));
        CHECK.illegalArgument("damp -1", () -> x.inside(0, 0, -1));
        CHECK.illegalArgument("damp 10001", () -> x.inside(0, 0, 10001));
        x.curve(0, 1000000, 10000);
        x.rates(0, 500, 0, 100);
        x.table(0, 1);
        x.table(1000, 1001);
        x.inside(0, 1000, 10000);
        x.inside(1, 999, 4999);
        x.inside(23, -5000, 0);
        x.run(1);
        CHECK.same("half of the pressure inside", x.balance(2), 500);
        CHECK.same("warmth between", x.told(0, 2), 500);
        x.run(1);
        CHECK.same("pressure is rounded down, then the flow", x.balance(2), 500 + 249);
        CHECK.same("warmth is rounded down", x.told(0, 2), 499);
        x.run(22);
        CHECK.same("the last hour of the day", x.told(0, 2), -2500);
        x.run(1);
        CHECK.same("the day comes again", x.told(0, 2), 500);
    }

    private static void promise10Water() {
        WallDamp x = new WallDamp(2);
        CHECK.illegalArgument("more than MOST of no curve", () -> x.water(0, 1));
        CHECK.same("0 is MOST of no curve", x.water(0, 0), 0);
        x.curve(0, 70, 10);
        CHECK.illegalArgument("cell -1", () -> x.water(-1, 0));
        CHECK.illegalArgument("cell 2", () -> x.water(2, 0));
        CHECK.illegalArgument("water -1", () -> x.water(0, -1));
        CHECK.illegalArgument("water above MOST", () -> x.water(0, 71));
        CHECK.same("water MOST", x.water(0, 70), 0);
        CHECK.same("what it was", x.water(0, 30), 70);
        CHECK.same("the other cell", x.water(1, 9), 0);
        CHECK.same("told", x.told(0, 0), 30);
        CHECK.same("all water", x.balance(0), 39);
        CHECK.same("START", x.balance(5), 39);
        x.run(1);
        CHECK.same("water behind an hour", x.water(0, 1), 30);
        CHECK.same("START goes down", x.balance(5), 10);
        WallDamp y = new WallDamp(1);
        y.curve(0, 70, 10);
        y.rates(0, 0, 1000, 100);
        y.outside(0, 0, 0, 5, 0);
        y.run(1);
        CHECK.same("water that rain brought", y.water(0, 0), 50);
        CHECK.same("START below 0", y.balance(5), -50);
    }

    private static void promise11Leak() {
        WallDamp x = new WallDamp(2);
        CHECK.illegalArgument("cell -1", () -> x.leak(-1, 0));
        CHECK.illegalArgument("cell 2", () -> x.leak(2, 0));
        CHECK.illegalArgument("rate -1", () -> x.leak(0, -1));
        CHECK.illegalArgument("rate 1001", () -> x.leak(0, 1001));
        CHECK.same("0 at first", x.leak(0, 1000), 0);
        CHECK.same("what it was", x.leak(0, 999), 1000);
        CHECK.same("each cell has its own", x.leak(1, 0), 0);
        x.curve(0, 100000, 10000);
        x.table(0, 501);
        x.inside(0, 0, 10000);
        x.run(1);
        CHECK.same("a leak, rounded down", x.told(0, 0), 500);
        CHECK.same("no leak", x.told(1, 0), 0);
        CHECK.same("it came from the inside", x.balance(2), 500);
        x.run(1);
        CHECK.same("no leak goes to the inside", x.told(0, 0), 500);
        CHECK.same("nothing went in", x.balance(4), 0);
        x.leak(0, 0);
        x.run(23);
        CHECK.same("no leak any more", x.told(0, 0), 500);
    }

    private static void promise12Growth() {
        WallDamp x = new WallDamp(1);
        CHECK.illegalArgument("damp -1", () -> x.growth(-1, 0, 0, 1));
        CHECK.illegalArgument("damp 10001", () -> x.growth(10001, 0, 0, 1));
        CHECK.illegalArgument("from -5001", () -> x.growth(0, -5001, 0, 1));
        CHECK.illegalArgument("from 10001", () -> x.growth(0, 10001, 10001, 1));
        CHECK.illegalArgument("to 10001", () -> x.growth(0, 0, 10001, 1));
        CHECK.illegalArgument("to -5001", () -> x.growth(0, -5001, -5001, 1));
        CHECK.illegalArgument("from above to", () -> x.growth(0, 1, 0, 1));
        CHECK.illegalArgument("0 more", () -> x.growth(0, 0, 0, 0));
        CHECK.illegalArgument("1001 more", () -> x.growth(0, 0, 0, 1001));
        CHECK.same("the widest row", x.growth(0, -5000, 10000, 1000), 1);
        CHECK.same("a row at the upper end", x.growth(10000, 10000, 10000, 1), 2);
        CHECK.same("a row at the lower end", x.growth(10000, -5000, -5000, 1), 3);
        x.run(1);
        CHECK.same("the same row again", x.growth(10000, -5000, -5000, 1), 4);
        CHECK.same("a fifth", x.growth(0, 0, 0, 1), 5);
        CHECK.same("a sixth", x.growth(0, 0, 0, 1), 6);
        CHECK.illegalState("a seventh", () -> x.growth(0, 0, 0, 1));
        CHECK.illegalArgument("illegal argument comes first", () -> x.growth(0, 1, 0, 1));
    }
}
