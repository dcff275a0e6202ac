/**
 * The boundary cases that 'Terms' names of cells, materials, curves, table, climate and warmths, sentence by sentence;
 * those of the flows, of frost and of mould are in FlowEdgesTest, the bounds of numbers in BoundsTest.
 */
public final class TermsEdgesTest {
    private static final Check CHECK = new Check();

    public static void main(String[] args) {
        cellsAreNoughtToOneBeforeTheirNumber();
        materialIsNoughtAtFirst();
        thicknessIsTenAtFirst();
        waterAndLeakAreNoughtAtFirst();
        vapourAndLiquidAreNoughtAtFirst();
        leadsAreAHundredAtFirst();
        theFirstCornerIsAlwaysThere();
        mostIsTheHeldOfTheLastCorner();
        dampIsRoundedDownBetweenCorners();
        dampAtTheSteepestAndTheFlattest();
        fullIsRoundedDownBetweenCorners();
        fullBeforeTheFirstAndBehindTheLast();
        fullIsNoughtWithoutCorners();
        pressureIsRoundedDown();
        pressureAtTheGreatest();
        climateIsNoughtAtFirst();
        climateComesAgainEachDay();
        climateAtTheLastHourOfAll();
        filmsAreTenAtFirst();
        resistanceIsRoundedDown();
        warmthIsRoundedDownNotToNought();
        warmthIsTheFacesIfAllIsNought();
        warmthWithOneFilmAlone();
        warmthAtTheGreatestResistances();
        theFaceIsWarmerBySun();
        CHECK.end();
    }

    /** "CELLS are 0 .. n - 1" */
    private static void cellsAreNoughtToOneBeforeTheirNumber() {
        for (int n = 1; n <= 12; n++) {
            WallDamp x = new WallDamp(n);
            int[] none = {-1, n, n + 1, 12, 13};
            for (int k : none) {
                CHECK.illegalArgument("cell " + k + " of " + n, () -> x.cell(k, 0, 10));
                CHECK.illegalArgument("water " + k + " of " + n, () -> x.water(k, 0));
                CHECK.illegalArgument("leak " + k + " of " + n, () -> x.leak(k, 0));
                CHECK.illegalArgument("told " + k + " of " + n, () -> x.told(k, 0));
                CHECK.illegalArgument("order " + k + " of " + n, () -> x.order(1, k));
            }
            for (int k = 0; k < n; k++) {
                x.cell(k, 5, 1000);
                CHECK.same("water " + k + " of " + n, x.water(k, 0), 0);
                CHECK.same("leak " + k + " of " + n, x.leak(k, k), 0);
                CHECK.same("told " + k + " of " + n, x.told(k, 5), 0);
            }
        }
    }

    /** "each has a MATERIAL 0 .. 5 (0 at first)" */
    private static void materialIsNoughtAtFirst() {
        WallDamp x = new WallDamp(12);
        for (int material = 0; material < 6; material++) {
            x.curve(material, 10 + material, 10);
        }
        for (int k = 0; k < 12; k++) {
            int place = k;
            CHECK.same("cell " + k + " holds what material 0 can", x.water(k, 10), 0);
            CHECK.illegalArgument("cell " + k + " holds no more", () -> x.water(place, 11));
        }
        for (int material = 0; material < 6; material++) {
            x.cell(3, material, 10);
            int above = 11 + material;
            CHECK.same("as much as material " + material, x.water(3, 10 + material), 0);
            CHECK.illegalArgument("no more than material " + material, () -> x.water(3, above));
        }
    }

    /** "a THICKNESS (1 .. 1000; 10 at first)" */
    private static void thicknessIsTenAtFirst() {
        WallDamp x = new WallDamp(2);
        x.films(0, 0);
        x.cell(1, 0, 30);
        x.inside(0, 4000, 0);
        x.run(1);
        CHECK.same("10 of 80", x.told(0, 2), 500);
        CHECK.same("50 of 80", x.told(1, 2), 2500);
    }

    /** "WATER (0 at first) and a LEAK (0 .. 1000; 0 at first)" */
    private static void waterAndLeakAreNoughtAtFirst() {
        WallDamp x = new WallDamp(12);
        x.curve(0, 1000000, 10000);
        x.table(0, 100000);
        x.inside(0, 0, 10000);
        x.run(1);
        for (int k = 0; k < 12; k++) {
            CHECK.same("no leak, no water in cell " + k, x.told(k, 0), 0);
            CHECK.same("leak of cell " + k, x.leak(k, 1000), 0);
            CHECK.same("water of cell " + k, x.water(k, 1), 0);
        }
    }

    /** "A material has a VAPOUR number and a LIQUID one (0 .. 1000 each; 0 at first)" */
    private static void vapourAndLiquidAreNoughtAtFirst() {
        for (int material = 0; material < 6; material++) {
            WallDamp x = new WallDamp(3);
            x.curve(material, 1000, 10000);
            for (int k = 0; k < 3; k++) {
                x.cell(k, material, 10);
            }
            x.table(0, 100000);
            x.outside(0, 0, 10000, 1000, 0);
            x.inside(0, 0, 10000);
            x.water(1, 1000);
            x.run(2);
            CHECK.same("nothing comes to the outer cell, material " + material, x.told(0, 0), 0);
            CHECK.same("nothing leaves the cell in between", x.told(1, 0), 1000);
            CHECK.same("nothing comes to the inner cell", x.told(2, 0), 0);
            for (int k = 0; k < 3; k++) {
                x.water(k, 1000 - 400 * k);
            }
            x.run(2);
            for (int k = 0; k < 3; k++) {
                CHECK.same("nothing leaves a wet cell for dry air", x.told(k, 0), 1000 - 400 * k);
            }
        }
    }

    /** "a LEADS (1 .. 1000; 100 at first)" */
    private static void leadsAreAHundredAtFirst() {
        for (int material = 0; material < 6; material++) {
            int other = (material + 1) % 6;
            WallDamp x = new WallDamp(2);
            x.films(0, 0);
            x.rates(other, 0, 0, 50);
            x.cell(0, material, 10);
            x.cell(1, other, 10);
            x.inside(0, 3000, 0);
            x.run(1);
            CHECK.same("10 of 60, material " + material, x.told(0, 2), 500);
            CHECK.same("40 of 60, material " + material, x.told(1, 2), 2000);
            WallDamp thick = new WallDamp(1);
            thick.cell(0, material, 1000);
            thick.films(0, 1000);
            thick.inside(0, 4000, 0);
            thick.run(1);
            CHECK.same("1000 of 4000, material " + material, thick.told(0, 2), 1000);
        }
    }

    /** "the first one 0 and 0, which is always there" */
    private static void theFirstCornerIsAlwaysThere() {
        WallDamp x = new WallDamp(1);
        CHECK.same("damp without another corner", x.told(0, 1), 0);
        CHECK.illegalArgument("nothing can be held there", () -> x.water(0, 1));
        CHECK.same("and a corner behind it is the second", x.curve(0, 4, 10), 2);
        int[] damp = {0, 2, 5, 7, 10};
        for (int water = 0; water < damp.length; water++) {
            x.water(0, water);
            CHECK.same("a line from 0 and 0 at " + water, x.told(0, 1), damp[water]);
        }
    }

    /** "MOST is the HELD of the last corner." */
    private static void mostIsTheHeldOfTheLastCorner() {
        WallDamp x = new WallDamp(1);
        int[] held = {1, 2, 700, 701, 999999, 1000000};
        for (int i = 0; i < held.length; i++) {
            int most = held[i];
            CHECK.illegalArgument("too much before the corner", () -> x.water(0, most));
            x.curve(0, most, i + 1);
            x.water(0, most);
            CHECK.same("all of " + most, x.told(0, 0), most);
            CHECK.same("and the damp there", x.told(0, 1), i + 1);
            CHECK.illegalArgument("more than " + most, () -> x.water(0, most + 1));
        }
    }

    /** "The DAMP of a cell is that of its water by straight lines between corners, rounded down." */
    private static void dampIsRoundedDownBetweenCorners() {
        WallDamp x = new WallDamp(1);
        x.curve(0, 3, 1000);
        x.curve(0, 10, 1013);
        x.curve(0, 16, 9999);
        int[] water = {0, 1, 2, 3, 4, 5, 9, 10, 11, 15, 16};
        int[] damp = {0, 333, 666, 1000, 1001, 1003, 1011, 1013, 2510, 8501, 9999};
        for (int i = 0; i < water.length; i++) {
            x.water(0, water[i]);
            CHECK.same("damp of " + water[i], x.told(0, 1), damp[i]);
        }
    }

    private static void dampAtTheSteepestAndTheFlattest() {
        WallDamp steep = new WallDamp(1);
        steep.curve(0, 1, 10000);
        CHECK.same("nothing held", steep.told(0, 1), 0);
        steep.water(0, 1);
        CHECK.same("one held, wholly damp", steep.told(0, 1), 10000);
        WallDamp flat = new WallDamp(1);
        flat.curve(0, 999999, 1);
        flat.curve(0, 1000000, 10000);
        int[] water = {1, 999998, 999999, 1000000};
        int[] damp = {0, 0, 1, 10000};
        for (int i = 0; i < water.length; i++) {
            flat.water(0, water[i]);
            CHECK.same("flat, then steep: damp of " + water[i], flat.told(0, 1), damp[i]);
        }
        WallDamp great = new WallDamp(1);
        great.curve(0, 1000000, 10000);
        int[] much = {99, 100, 214748, 214900, 429497, 999999, 1000000};
        int[] due = {0, 1, 2147, 2149, 4294, 9999, 10000};
        for (int i = 0; i < much.length; i++) {
            great.water(0, much[i]);
            CHECK.same("the greatest curve: damp of " + much[i], great.told(0, 1), due[i]);
        }
    }

    /** "PRESSURE FULL at a warmth is by straight lines between them, rounded down" */
    private static void fullIsRoundedDownBetweenCorners() {
        WallDamp x = new WallDamp(1);
        x.table(-3, 0);
        x.table(0, 10);
        x.table(7, 11);
        x.table(10, 21);
        int[] warmth = {-3, -2, -1, 0, 1, 6, 7, 8, 9, 10};
        int[] full = {0, 3, 6, 10, 10, 10, 11, 14, 17, 21};
        for (int i = 0; i < warmth.length; i++) {
            CHECK.same("full(" + warmth[i] + ")", x.full(warmth[i]), full[i]);
        }
        WallDamp wide = new WallDamp(1);
        wide.table(-5000, 0);
        wide.table(10000, 100000);
        int[] far = {-5000, -4999, -1, 0, 9999, 10000};
        int[] due = {0, 6, 33326, 33333, 99993, 100000};
        for (int i = 0; i < far.length; i++) {
            CHECK.same("the widest table: full(" + far[i] + ")", wide.full(far[i]), due[i]);
        }
    }

    /** "before the first and behind the last one as there" */
    private static void fullBeforeTheFirstAndBehindTheLast() {
        WallDamp x = new WallDamp(1);
        x.table(-10, 7);
        int[] anywhere = {-5000, -11, -10, -9, 0, 10000};
        for (int warmth : anywhere) {
            CHECK.same("one corner: full(" + warmth + ")", x.full(warmth), 7);
        }
        x.table(20, 9);
        int[] before = {-5000, -12, -11, -10};
        for (int warmth : before) {
            CHECK.same("before the first: full(" + warmth + ")", x.full(warmth), 7);
        }
        int[] behind = {20, 21, 22, 10000};
        for (int warmth : behind) {
            CHECK.same("behind the last: full(" + warmth + ")", x.full(warmth), 9);
        }
        WallDamp y = new WallDamp(1);
        for (int i = 1; i <= 8; i++) {
            y.table(i * 10, i * 100);
        }
        CHECK.same("before the first of eight", y.full(9), 100);
        CHECK.same("behind the last of eight", y.full(81), 800);
        CHECK.same("before the last of eight", y.full(79), 790);
        WallDamp frost = new WallDamp(1);
        frost.curve(0, 1000000, 10000);
        frost.rates(0, 1000, 0, 100);
        frost.table(-4000, 50);
        frost.table(4000, 90);
        frost.outside(0, -5000, 10000, 0, 0);
        frost.outside(1, 5000, 10000, 0, 1000);
        frost.run(1);
        CHECK.same("in an hour, before the first", frost.balance(1), 50);
        frost.water(0, 0);
        frost.run(1);
        CHECK.same("in an hour, behind the last", frost.balance(1), 50 + 90);
    }

    /** "0 without corners" */
    private static void fullIsNoughtWithoutCorners() {
        WallDamp x = new WallDamp(1);
        int[] anywhere = {-5000, -1, 0, 1, 10000};
        for (int warmth : anywhere) {
            CHECK.same("full(" + warmth + ")", x.full(warmth), 0);
        }
        x.curve(0, 1000, 10000);
        x.rates(0, 1000, 0, 100);
        x.outside(0, 5000, 10000, 0, 0);
        x.inside(0, 5000, 10000);
        x.leak(0, 1000);
        x.water(0, 500);
        x.run(1);
        CHECK.same("no vapour without a table", x.told(0, 0), 500);
        CHECK.same("none came", x.balance(1) + x.balance(2), 0);
    }

    /** "A PRESSURE ... is the pressure full at that warmth times the damp by 10000, rounded down." */
    private static void pressureIsRoundedDown() {
        int[] damp = {0, 1, 3333, 3334, 6666, 6667, 9999, 10000};
        int[] pressure = {0, 0, 0, 1, 1, 2, 2, 3};
        for (int i = 0; i < damp.length; i++) {
            WallDamp x = new WallDamp(1);
            x.curve(0, 10000, 10000);
            x.rates(0, 1000, 0, 100);
            x.table(0, 3);
            x.outside(0, 0, damp[i], 0, 0);
            x.run(1);
            CHECK.same("outside, of damp " + damp[i], x.balance(1), pressure[i]);
            WallDamp y = new WallDamp(1);
            y.curve(0, 10000, 10000);
            y.table(0, 3);
            y.rates(0, 1000, 0, 100);
            y.inside(0, 0, damp[i]);
            y.run(1);
            CHECK.same("inside, of damp " + damp[i], y.balance(2), pressure[i]);
            WallDamp z = new WallDamp(1);
            z.curve(0, 10000, 10000);
            z.table(0, 3);
            z.rates(0, 1000, 0, 100);
            z.water(0, damp[i]);
            z.run(1);
            CHECK.same("of a cell, of damp " + damp[i], z.balance(3), pressure[i]);
        }
    }

    private static void pressureAtTheGreatest() {
        WallDamp x = new WallDamp(2);
        x.curve(0, 1000000, 10000);
        x.rates(0, 1000, 1000, 100);
        x.table(0, 100000);
        x.outside(0, 0, 10000, 1000, 0);
        x.inside(0, 0, 10000);
        x.leak(1, 1000);
        x.run(1);
        CHECK.same("100000 by vapour and 10000 by rain", x.balance(1), 110000);
        CHECK.same("100000 by vapour and as much by the leak", x.balance(2), 200000);
        WallDamp y = new WallDamp(2);
        y.curve(0, 1000000, 10000);
        y.rates(0, 1000, 1000, 100);
        y.table(0, 100000);
        y.outside(0, 0, 10000, 0, 0);
        y.water(0, 1000000);
        y.run(1);
        CHECK.same("100000 by vapour and 10000 as liquid", y.told(1, 0), 110000);
    }

    /** "outside a warmth, a damp, RAIN and SUN; inside a warmth and a damp; all 0 at first" */
    private static void climateIsNoughtAtFirst() {
        WallDamp x = new WallDamp(1);
        x.curve(0, 1000000, 10000);
        x.rates(0, 1000, 1000, 100);
        x.table(0, 100000);
        x.leak(0, 1000);
        for (int hour = 1; hour <= 24; hour++) {
            CHECK.same("hours over", x.run(1), hour);
            CHECK.same("warmth in hour " + hour, x.told(0, 2), 0);
            CHECK.same("water in hour " + hour, x.told(0, 0), 0);
        }
    }

    /** "THE CLIMATE is told for hours 0 .. 23 of a day, and comes again each day" */
    private static void climateComesAgainEachDay() {
        WallDamp x = new WallDamp(1);
        x.films(0, 0);
        x.rates(0, 0, 1000, 100);
        x.curve(0, 1000000, 10000);
        for (int hour = 0; hour < 24; hour++) {
            x.outside(hour, 100 * hour, 0, hour, 10);
            x.inside(hour, 1000 + 100 * hour, 0);
        }
        long rain = 0;
        for (int over = 0; over < 75; over++) {
            x.run(1);
            int hour = over % 24;
            rain += 10 * hour;
            CHECK.same("warmth with " + over + " hours over", x.told(0, 2), 10 + 100 * hour + 495);
            CHECK.same("rain with " + over + " hours over", x.balance(1), rain);
        }
        WallDamp y = new WallDamp(1);
        y.outside(23, 60, 0, 0, 0);
        y.run(23);
        CHECK.same("before the last hour of a day", y.told(0, 2), 0);
        y.run(1);
        CHECK.same("in the last hour of a day", y.told(0, 2), 30);
        y.run(1);
        CHECK.same("in the first hour of the next day", y.told(0, 2), 0);
    }

    /** "by the climate of the hours that are over modulo 24": of 9999 it is hour 15. */
    private static void climateAtTheLastHourOfAll() {
        WallDamp x = new WallDamp(1);
        x.outside(14, 20, 0, 0, 0);
        x.outside(15, 60, 0, 0, 0);
        x.outside(16, 90, 0, 0, 0);
        for (int i = 0; i < 41; i++) {
            x.run(240);
        }
        x.run(159);
        CHECK.same("with 9998 hours over", x.told(0, 2), 10);
        x.run(1);
        CHECK.same("with 9999 hours over", x.told(0, 2), 30);
    }

    /** "FILMS are two numbers (0 .. 1000; 10 and 10 at first)." */
    private static void filmsAreTenAtFirst() {
        WallDamp x = new WallDamp(1);
        x.cell(0, 0, 20);
        x.inside(0, 800, 0);
        x.inside(1, 800, 0);
        x.inside(2, 800, 0);
        x.run(1);
        CHECK.same("40 of 80", x.told(0, 2), 400);
        x.films(10, 20);
        x.run(1);
        CHECK.same("40 of 100", x.told(0, 2), 320);
        x.films(20, 10);
        x.run(1);
        CHECK.same("60 of 100", x.told(0, 2), 480);
    }

    /** "a cell's RESISTANCE is 100 times its thickness by its material's leads, rounded down" */
    private static void resistanceIsRoundedDown() {
        int[] thickness = {1, 1, 1, 9, 10, 19, 20, 1000, 1000, 1};
        int[] leads = {100, 101, 51, 1000, 1000, 1000, 1000, 1, 1000, 1};
        int[] resistance = {1, 0, 1, 0, 1, 1, 2, 100000, 100, 100};
        for (int i = 0; i < thickness.length; i++) {
            WallDamp x = new WallDamp(1);
            x.cell(0, 0, thickness[i]);
            x.rates(0, 0, 0, leads[i]);
            x.films(0, 1);
            x.inside(0, 1000, 0);
            x.run(1);
            long due = 1000L * resistance[i] / (2L * resistance[i] + 2);
            CHECK.same("thickness " + thickness[i] + ", leads " + leads[i], x.told(0, 2), due);
        }
    }

    /** "cell k has that, and (the inside's less that) times WAY(k) by ALL, rounded down" */
    private static void warmthIsRoundedDownNotToNought() {
        int[] outer = {0, -1, 1, 0, 0, -3, 5};
        int[] inner = {-1, 0, 0, 1, -3, 0, -6};
        int[] warmth = {-1, -1, 0, 0, -2, -2, -1};
        for (int i = 0; i < outer.length; i++) {
            WallDamp x = new WallDamp(1);
            x.outside(0, outer[i], 0, 0, 0);
            x.inside(0, inner[i], 0);
            x.run(1);
            CHECK.same("half way from " + outer[i] + " to " + inner[i], x.told(0, 2), warmth[i]);
        }
    }

    /** "(that alone if ALL is 0)" */
    private static void warmthIsTheFacesIfAllIsNought() {
        WallDamp x = new WallDamp(12);
        x.films(0, 0);
        x.rates(0, 0, 0, 1000);
        for (int k = 0; k < 12; k++) {
            x.cell(k, 0, 1 + k % 9);
        }
        x.outside(0, -5000, 0, 0, 0);
        x.inside(0, 5000, 0);
        x.outside(1, 300, 0, 0, 44);
        x.inside(1, -5000, 0);
        x.run(1);
        for (int k = 0; k < 12; k++) {
            CHECK.same("the coldest face, cell " + k, x.told(k, 2), -5000);
        }
        x.run(1);
        for (int k = 0; k < 12; k++) {
            CHECK.same("a face with sun, cell " + k, x.told(k, 2), 344);
        }
        WallDamp y = new WallDamp(2);
        y.films(0, 0);
        y.rates(0, 0, 0, 1000);
        y.cell(0, 0, 9);
        y.cell(1, 0, 10);
        y.inside(0, 100, 0);
        y.run(1);
        CHECK.same("resistances 0 and 1, outer", y.told(0, 2), 0);
        CHECK.same("resistances 0 and 1, inner", y.told(1, 2), 50);
    }

    /** "WAY(k) is twice the outer film, ...": with no resistance a cell is as warm as the side without a film. */
    private static void warmthWithOneFilmAlone() {
        WallDamp x = new WallDamp(2);
        x.rates(0, 0, 0, 1000);
        x.cell(0, 0, 1);
        x.cell(1, 0, 1);
        for (int hour = 0; hour < 3; hour++) {
            x.outside(hour, -700, 0, 0, 0);
            x.inside(hour, 900, 0);
        }
        x.films(1, 0);
        x.run(1);
        CHECK.same("the outer film alone, outer cell", x.told(0, 2), 900);
        CHECK.same("the outer film alone, inner cell", x.told(1, 2), 900);
        x.films(0, 1);
        x.run(1);
        CHECK.same("the inner film alone, outer cell", x.told(0, 2), -700);
        CHECK.same("the inner film alone, inner cell", x.told(1, 2), -700);
        x.films(1000, 600);
        x.run(1);
        CHECK.same("both films, inner cell", x.told(1, 2), 300);
    }

    private static void warmthAtTheGreatestResistances() {
        WallDamp x = new WallDamp(12);
        x.films(1000, 1000);
        x.rates(0, 0, 0, 1);
        for (int k = 0; k < 12; k++) {
            x.cell(k, 0, 1000);
        }
        x.outside(0, -5000, 0, 0, 0);
        x.inside(0, 5000, 0);
        x.outside(1, 5000, 0, 0, 1000);
        x.inside(1, -5000, 0);
        x.run(1);
        CHECK.same("-5000 and 10000 * 102000 / 2404000", x.told(0, 2), -4576);
        CHECK.same("-5000 and 10000 * 2302000 / 2404000", x.told(11, 2), 4575);
        x.run(1);
        CHECK.same("6000 and -11000 * 102000 / 2404000, rounded down", x.told(0, 2), 5533);
        CHECK.same("6000 and -11000 * 2302000 / 2404000, rounded down", x.told(11, 2), -4534);
    }

    /** "The face's warmth is the outside's and SUN" */
    private static void theFaceIsWarmerBySun() {
        WallDamp x = new WallDamp(1);
        x.films(0, 0);
        x.rates(0, 0, 0, 1000);
        x.cell(0, 0, 1);
        x.outside(0, 5000, 0, 0, 1000);
        x.outside(1, -5000, 0, 0, 1000);
        x.outside(2, -1, 0, 0, 1);
        x.outside(3, -5000, 0, 0, 0);
        int[] face = {6000, -4000, 0, -5000};
        for (int hour = 0; hour < face.length; hour++) {
            x.run(1);
            CHECK.same("the face in hour " + hour, x.told(0, 2), face[hour]);
        }
    }
}
