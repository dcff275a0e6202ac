/**
 * The boundary cases that the promises 1 to 16 name, sentence by sentence, beyond the bounds of their numbers
 * (BoundsTest) and the states that refuse them (StatesTest); those of promise 17 are in OrderEdgesTest.
 */
public final class PromiseEdgesTest {
    private static final Check CHECK = new Check();

    public static void main(String[] args) {
        promise1BelowOneCountsAsOneAboveTwelveAsTwelve();
        promise1NothingHeldNoHourOver();
        promise2HowManyWithTheFirstOne();
        promise3TheNextHourGoesByTheNewRates();
        promise4ItsWaterIsNoughtThen();
        promise4WhatGoesIsCountedAsStart();
        promise4OnlyMaterialAndThickness();
        promise5HowManyItHas();
        promise6FullAtItsBounds();
        promise7FilmsAtTheirBounds();
        promise8OneHourOfTheDayAlone();
        promise9OneHourOfTheDayAlone();
        promise10NotMoreThanMost();
        promise10WhatItWas();
        promise10WhatComesOrGoesIsStart();
        promise11WhatItWas();
        promise12HowManyThereAre();
        promise13HowManyAreOverThen();
        promise14BeforeAnyHour();
        promise14WarmthOfTheLatestHour();
        promise14GreatestDampBehindAnHour();
        promise15AllSix();
        promise15NoneOfTheWaterLost();
        promise16AtFirstAndLater();
        CHECK.end();
    }

    /** "So many cells (below 1 counts as 1, above 12 as 12)" */
    private static void promise1BelowOneCountsAsOneAboveTwelveAsTwelve() {
        int[] asked = {Integer.MIN_VALUE, -12, -1, 0, 1, 2, 5, 6, 11, 12, 13, 14, 24, Integer.MAX_VALUE};
        int[] made = {1, 1, 1, 1, 1, 2, 5, 6, 11, 12, 12, 12, 12, 12};
        for (int i = 0; i < asked.length; i++) {
            WallDamp x = new WallDamp(asked[i]);
            int n = made[i];
            CHECK.same("the last of " + asked[i], x.told(n - 1, 0), 0);
            CHECK.illegalArgument("none behind the last of " + asked[i], () -> x.told(n, 0));
            CHECK.illegalArgument("none before the first of " + asked[i], () -> x.told(-1, 0));
            CHECK.same("an hour of " + asked[i], x.run(1), 1);
        }
    }

    /** "nothing held; no hour is over" */
    private static void promise1NothingHeldNoHourOver() {
        WallDamp x = new WallDamp(12);
        for (int what = 0; what < 6; what++) {
            for (int k = 0; k < 12; k++) {
                CHECK.same("told(" + k + ", " + what + ")", x.told(k, what), 0);
            }
            CHECK.same("balance(" + what + ")", x.balance(what), 0);
        }
        CHECK.same("mould", x.mould(), 0);
        CHECK.same("a curve can be told", x.curve(0, 1, 1), 2);
        x.cell(0, 0, 1);
        CHECK.same("the first hour", x.run(1), 1);
        CHECK.same("NONE", WallDamp.NONE, -1);
    }

    /** "how many it has, with the first one" */
    private static void promise2HowManyWithTheFirstOne() {
        WallDamp x = new WallDamp(1);
        for (int material = 5; material >= 0; material--) {
            for (int corner = 2; corner <= 7; corner++) {
                CHECK.same("material " + material, x.curve(material, corner * 9, corner * 7), corner);
            }
        }
        WallDamp y = new WallDamp(1);
        CHECK.same("the greatest corner", y.curve(0, 1000000, 10000), 2);
        CHECK.illegalState("and none behind it", () -> y.curve(0, 1000000, 10000));
        WallDamp z = new WallDamp(1);
        CHECK.same("the least corner", z.curve(0, 1, 1), 2);
    }

    private static void promise3TheNextHourGoesByTheNewRates() {
        WallDamp x = new WallDamp(1);
        x.curve(0, 1000000, 10000);
        for (int hour = 0; hour < 24; hour++) {
            x.outside(hour, 0, 0, 100, 0);
        }
        x.run(1);
        CHECK.same("liquid 0", x.balance(1), 0);
        x.rates(0, 0, 1000, 100);
        x.run(1);
        CHECK.same("liquid 1000", x.balance(1), 1000);
        x.rates(0, 0, 0, 100);
        x.run(1);
        CHECK.same("liquid 0 again", x.balance(1), 1000);
        x.rates(5, 0, 1000, 100);
        x.run(1);
        CHECK.same("another material's rates", x.balance(1), 1000);
    }

    private static WallDamp filled() {
        WallDamp x = new WallDamp(3);
        x.curve(0, 1000, 10000);
        x.curve(1, 10, 10);
        x.water(0, 1000);
        x.water(1, 20);
        x.water(2, 3);
        x.leak(1, 44);
        return x;
    }

    /** "its water is 0 then" */
    private static void promise4ItsWaterIsNoughtThen() {
        WallDamp x = filled();
        x.cell(0, 1, 10);
        CHECK.same("another material", x.told(0, 0), 0);
        CHECK.same("no damp either", x.told(0, 1), 0);
        x.cell(1, 0, 10);
        CHECK.same("the same material and thickness", x.told(1, 0), 0);
        CHECK.same("the other cell keeps its water", x.told(2, 0), 3);
        x.cell(0, 1, 10);
        CHECK.same("an empty cell", x.told(0, 0), 0);
        CHECK.illegalArgument("the new material's MOST", () -> x.water(0, 11));
        CHECK.same("up to it", x.water(0, 10), 0);
    }

    /** "(what goes by that is counted as START)" */
    private static void promise4WhatGoesIsCountedAsStart() {
        WallDamp x = filled();
        CHECK.same("START", x.balance(5), 1023);
        x.cell(0, 0, 10);
        CHECK.same("START less 1000", x.balance(5), 23);
        CHECK.same("all water", x.balance(0), 23);
        x.cell(0, 0, 10);
        CHECK.same("an empty cell changes no START", x.balance(5), 23);
        x.cell(1, 1, 1);
        x.cell(2, 1, 1);
        CHECK.same("nothing is left", x.balance(5), 0);
        for (int what = 1; what <= 4; what++) {
            CHECK.same("no other balance", x.balance(what), 0);
        }
    }

    private static void promise4OnlyMaterialAndThickness() {
        WallDamp x = filled();
        x.cell(1, 5, 1000);
        CHECK.same("the leak stays", x.leak(1, 0), 44);
    }

    private static void promise5HowManyItHas() {
        WallDamp x = new WallDamp(1);
        CHECK.same("the least corner", x.table(-5000, 0), 1);
        for (int i = 2; i <= 7; i++) {
            CHECK.same("corner " + i, x.table(i, i), i);
        }
        CHECK.same("the greatest corner", x.table(10000, 100000), 8);
        WallDamp y = new WallDamp(1);
        y.run(1);
        CHECK.same("an hour that is over refuses none", y.table(0, 0), 1);
        CHECK.same("nor a second", y.table(1, 1), 2);
    }

    /** "PRESSURE FULL at a warmth (-5000 .. 10000)" */
    private static void promise6FullAtItsBounds() {
        WallDamp x = new WallDamp(1);
        x.table(-5000, 3);
        x.table(10000, 9);
        CHECK.same("the least warmth", x.full(-5000), 3);
        CHECK.same("the greatest warmth", x.full(10000), 9);
        CHECK.same("the one before it", x.full(9999), 8);
        CHECK.illegalArgument("below", () -> x.full(-5001));
        CHECK.illegalArgument("above", () -> x.full(10001));
        x.run(240);
        CHECK.same("hours change nothing of it", x.full(10000), 9);
    }

    private static void promise7FilmsAtTheirBounds() {
        WallDamp x = new WallDamp(1);
        for (int hour = 0; hour < 24; hour++) {
            x.inside(hour, 3000, 0);
        }
        int[][] films = {{0, 0}, {1000, 0}, {0, 1000}, {1000, 1000}};
        int[] warmth = {1500, 3000 * 2010 / 2020, 3000 * 10 / 2020, 1500};
        for (int i = 0; i < films.length; i++) {
            x.films(films[i][0], films[i][1]);
            x.run(1);
            CHECK.same("films " + films[i][0] + " and " + films[i][1], x.told(0, 2), warmth[i]);
        }
    }

    /** "The CLIMATE outside in an hour of the day" */
    private static void promise8OneHourOfTheDayAlone() {
        int[] hours = {0, 1, 22, 23};
        for (int told : hours) {
            WallDamp x = new WallDamp(1);
            x.curve(0, 1000000, 10000);
            x.rates(0, 1000, 1000, 100);
            x.table(0, 1000);
            x.outside(told, 100, 5, 4, 3);
            x.outside(told, -5000, 10000, 1000, 1000);
            for (int hour = 0; hour < 24; hour++) {
                long before = x.balance(1);
                x.water(0, 0);
                x.run(1);
                CHECK.same("warmth in hour " + hour, x.told(0, 2), hour == told ? -2000 : 0);
                CHECK.same("vapour and rain in hour " + hour, x.balance(1) - before, hour == told ? 11000 : 0);
            }
        }
    }

    /** "The CLIMATE inside" */
    private static void promise9OneHourOfTheDayAlone() {
        int[] hours = {0, 1, 22, 23};
        for (int told : hours) {
            WallDamp x = new WallDamp(1);
            x.curve(0, 1000000, 10000);
            x.rates(0, 1000, 1000, 100);
            x.table(0, 1000);
            x.inside(told, 100, 5);
            x.inside(told, 5000, 10000);
            for (int hour = 0; hour < 24; hour++) {
                long before = x.balance(2);
                x.water(0, 0);
                x.run(1);
                CHECK.same("warmth in hour " + hour, x.told(0, 2), hour == told ? 2500 : 0);
                CHECK.same("vapour in hour " + hour, x.balance(2) - before, hour == told ? 1000 : 0);
            }
            x.inside(told, -5000, 0);
            x.run(told + 1);
            CHECK.same("told anew, least warmth", x.told(0, 2), -2500);
        }
    }

    /** "Illegal argument: also if it is more than MOST." */
    private static void promise10NotMoreThanMost() {
        WallDamp x = new WallDamp(2);
        CHECK.illegalArgument("MOST is 0 at first", () -> x.water(1, 1));
        CHECK.same("0 is not more", x.water(1, 0), 0);
        x.curve(0, 10, 10);
        CHECK.illegalArgument("more than 10", () -> x.water(1, 11));
        CHECK.illegalArgument("within all bounds, but more than 10", () -> x.water(1, 1000000));
        CHECK.same("all of 10", x.water(1, 10), 0);
        x.curve(0, 1000000, 10000);
        CHECK.illegalArgument("more than 1000000", () -> x.water(1, 1000001));
        CHECK.same("all of 1000000", x.water(1, 1000000), 10);
        CHECK.illegalArgument("below 0", () -> x.water(1, -1));
        x.run(1);
        CHECK.illegalArgument("more than MOST behind an hour", () -> x.water(1, 1000001));
        CHECK.same("refused ones changed nothing", x.balance(5), 1000000);
        CHECK.same("still there", x.water(1, 0), 1000000);
    }

    /** "A cell's water becomes so much: what it was" */
    private static void promise10WhatItWas() {
        WallDamp x = filled();
        CHECK.same("all of it", x.water(0, 0), 1000);
        CHECK.same("nothing", x.water(0, 0), 0);
        CHECK.same("nothing again", x.water(0, 7), 0);
        CHECK.same("7", x.water(0, 7), 7);
        CHECK.same("7 again", x.water(0, 1000), 7);
        CHECK.same("the others are as they were", x.told(1, 0) + x.told(2, 0), 23);
    }

    /** "what comes by that, or goes, is counted as START" */
    private static void promise10WhatComesOrGoesIsStart() {
        WallDamp x = filled();
        x.water(0, 400);
        CHECK.same("600 go", x.balance(5), 423);
        x.water(0, 401);
        CHECK.same("1 comes", x.balance(5), 424);
        x.water(0, 401);
        CHECK.same("nothing comes or goes", x.balance(5), 424);
        WallDamp y = new WallDamp(1);
        y.curve(0, 1000, 10000);
        y.rates(0, 0, 1000, 100);
        y.outside(0, 0, 0, 100, 0);
        y.run(1);
        CHECK.same("full of rain", y.water(0, 0), 1000);
        CHECK.same("START is below 0", y.balance(5), -1000);
        CHECK.same("no water", y.balance(0), 0);
        CHECK.same("nothing went out", y.balance(3), 0);
    }

    /** "A cell's LEAK: what it was." */
    private static void promise11WhatItWas() {
        WallDamp x = new WallDamp(12);
        int[] rates = {1000, 0, 1, 999, 1000, 1000, 0};
        for (int k = 0; k < 12; k += 11) {
            int before = 0;
            for (int rate : rates) {
                CHECK.same("leak of cell " + k, x.leak(k, rate), before);
                before = rate;
            }
            x.leak(k, 17);
        }
        x.run(1);
        CHECK.same("behind an hour", x.leak(0, 0), 17);
        CHECK.same("the last cell's", x.leak(11, 0), 17);
        CHECK.same("a cell in between", x.leak(5, 0), 0);
        CHECK.illegalArgument("too small", () -> x.leak(5, -1));
        CHECK.illegalArgument("too large", () -> x.leak(5, 1001));
        CHECK.same("as it was", x.leak(5, 0), 0);
    }

    /** "A row of MOULD ...: how many there are." */
    private static void promise12HowManyThereAre() {
        WallDamp x = new WallDamp(1);
        CHECK.same("the widest", x.growth(0, -5000, 10000, 1000), 1);
        CHECK.same("the narrowest", x.growth(10000, 10000, 10000, 1), 2);
        CHECK.same("the coldest", x.growth(10000, -5000, -5000, 1), 3);
        x.run(1);
        CHECK.same("behind an hour", x.growth(0, 0, 0, 1), 4);
        CHECK.same("the same again", x.growth(0, 0, 0, 1), 5);
        CHECK.same("the sixth", x.growth(0, 0, 1, 1), 6);
    }

    /** "n hours (1 .. 240): how many are over then" */
    private static void promise13HowManyAreOverThen() {
        WallDamp x = new WallDamp(1);
        x.growth(0, 0, 0, 1);
        int[] hours = {1, 240, 2, 239, 1};
        int over = 0;
        for (int n : hours) {
            over += n;
            CHECK.same("run(" + n + ")", x.run(n), over);
            CHECK.same("so many hours were passed", x.mould(), over);
        }
        int[] refused = {0, -1, 241, Integer.MIN_VALUE, Integer.MAX_VALUE};
        for (int n : refused) {
            CHECK.illegalArgument("run(" + n + ")", () -> x.run(n));
        }
        CHECK.same("none of them passed an hour", x.mould(), over);
    }

    /** "2 its warmth in the latest hour (0 before any), ... 5 the greatest damp ... (0 before any)" */
    private static void promise14BeforeAnyHour() {
        WallDamp x = filled();
        x.outside(0, -300, 0, 0, 0);
        x.inside(0, -300, 0);
        int[] due = {1000, 10000, 0, 0, 0, 0};
        for (int what = 0; what < due.length; what++) {
            CHECK.same("before any hour, what " + what, x.told(0, what), due[what]);
        }
        x.run(1);
        int[] then = {1000, 10000, -300, 0, 1, 10000};
        for (int what = 0; what < then.length; what++) {
            CHECK.same("behind an hour, what " + what, x.told(0, what), then[what]);
        }
        x.order(48, 0);
        CHECK.same("no hour of an order's own run", x.told(0, 2), -300);
    }

    private static void promise14WarmthOfTheLatestHour() {
        WallDamp x = new WallDamp(2);
        x.outside(0, 800, 0, 0, 0);
        x.inside(1, 800, 0);
        x.run(1);
        CHECK.same("outer cell", x.told(0, 2), 500);
        CHECK.same("inner cell", x.told(1, 2), 300);
        x.films(1000, 0);
        x.outside(1, -5000, 0, 0, 0);
        CHECK.same("what is told changes no hour that is over", x.told(0, 2), 500);
        x.outside(1, 0, 0, 0, 0);
        x.films(10, 10);
        x.run(1);
        CHECK.same("outer cell then", x.told(0, 2), 300);
        CHECK.same("inner cell then", x.told(1, 2), 500);
    }

    /** "5 the greatest damp that it had behind an hour" */
    private static void promise14GreatestDampBehindAnHour() {
        WallDamp x = filled();
        CHECK.same("before any", x.told(0, 5), 0);
        x.water(0, 900);
        x.run(1);
        CHECK.same("not what was told before", x.told(0, 5), 9000);
        x.water(0, 1000);
        CHECK.same("not what is told between", x.told(0, 5), 9000);
        x.water(0, 800);
        x.run(1);
        CHECK.same("not a lesser one", x.told(0, 5), 9000);
        x.water(0, 901);
        x.run(1);
        CHECK.same("a greater one", x.told(0, 5), 9010);
        CHECK.same("each cell has its own", x.told(1, 5), 200);
        WallDamp y = new WallDamp(2);
        y.curve(0, 1000, 10000);
        y.rates(0, 0, 1000, 100);
        y.water(0, 100);
        y.run(1);
        CHECK.same("what left in the hour is gone behind it", y.told(0, 5), 0);
        CHECK.same("what came in the hour is there behind it", y.told(1, 5), 1000);
    }

    /** "What = 0 all water, 1 what came from the outside, 2 from the inside (leaks too), 3 out, 4 in, 5 START" */
    private static void promise15AllSix() {
        WallDamp x = new WallDamp(3);
        x.curve(0, 10000, 10000);
        x.table(0, 10000);
        x.rates(0, 100, 0, 100);
        x.outside(0, 0, 3000, 0, 0);
        x.inside(0, 0, 1000);
        x.leak(1, 10);
        x.water(2, 5000);
        x.run(1);
        long[] first = {5000 + 300 + 10 - 400, 300, 10, 0, 400, 5000};
        for (int what = 0; what < 6; what++) {
            CHECK.same("behind an hour, what " + what, x.balance(what), first[what]);
        }
        x.outside(1, 0, 0, 0, 0);
        x.inside(1, 0, 10000);
        int outer = x.told(0, 0);
        int middle = x.told(1, 0);
        int inner = x.told(2, 0);
        long start = -middle;
        x.water(1, 0);
        x.run(1);
        CHECK.same("what came from the outside stays", x.balance(1), 300);
        CHECK.same("vapour and leak from the inside", x.balance(2), 10 + (10000 - inner) / 10 + 100);
        CHECK.same("what went out", x.balance(3), outer / 10);
        CHECK.same("what went in stays", x.balance(4), 400);
        CHECK.same("START", x.balance(5), 5000 + start);
    }

    private static void promise15NoneOfTheWaterLost() {
        WallDamp x = Walls.rich();
        for (int i = 0; i < 20; i++) {
            x.run(1 + i % 7);
            x.water(i % 4, i);
            long sum = x.balance(5) + x.balance(1) + x.balance(2) - x.balance(3) - x.balance(4);
            CHECK.same("START, and what came, less what went", x.balance(0), sum);
            CHECK.same("all cells", x.balance(0), x.told(0, 0) + x.told(1, 0) + x.told(2, 0) + x.told(3, 0));
            CHECK.holds("no cell holds less than 0", Math.min(x.told(0, 0), x.told(1, 0)) >= 0);
            CHECK.holds("nor one more than MOST", x.told(3, 0) <= 80 && x.told(2, 0) <= 500 && x.told(1, 0) <= 1000);
        }
        for (int what = 1; what <= 4; what++) {
            CHECK.holds("something came and went each way: " + what, x.balance(what) > 0);
        }
    }

    private static void promise16AtFirstAndLater() {
        WallDamp x = new WallDamp(1);
        CHECK.same("at first", x.mould(), 0);
        x.growth(0, 0, 0, 1000);
        CHECK.same("a row is no hour", x.mould(), 0);
        x.run(1);
        CHECK.same("behind an hour", x.mould(), 1000);
        CHECK.same("asking changes nothing", x.mould(), 1000);
    }
}
