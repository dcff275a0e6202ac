/** The boundary cases that 'Terms' names of an hour's flows, of frost and of mould, sentence by sentence. */
public final class FlowEdgesTest {
    private static final Check CHECK = new Check();
    private static final int ALWAYS_COLD = -100;

    public static void main(String[] args) {
        liquidIsRoundedToNoughtEitherWay();
        vapourIsRoundedToNoughtEitherWay();
        theLesserNumberOfBoth();
        vapourAndLiquidEachRoundedThenTogether();
        vapourAndLiquidTogetherAboveBelowAndAtNought();
        vapourAndLiquidAreOneFlow();
        allByWhatIsThereAtTheBeginning();
        fromTheOutsideRoundedToNoughtEitherWay();
        rainIsRoundedDown();
        fromTheInsideRoundedToNoughtEitherWay();
        leaksOnlyIfAboveNought();
        leaksAreRoundedDown();
        everyCellMayLeak();
        oneCellIsTheFirstAndTheLast();
        leavingJustTheWater();
        leavingMoreThanTheWater();
        leavingUnlikeParts();
        leavingAnEmptyCell();
        comingJustTheRoom();
        comingMoreThanTheRoom();
        comingUnlikeParts();
        comingToAFullCell();
        comingToACellThatHoldsNothing();
        roomAsItWasAtTheBeginning();
        whatThenComesIsWhatMayLeave();
        whatFindsNoRoomStays();
        frozenBelowNoughtAndFromNineThousand();
        frozenUntilNoughtOrMore();
        onePassEachThaw();
        frozenByTheDampBehindTheMoves();
        mouldByTheDampBehindTheMoves();
        mouldFromTheRowsDamp();
        mouldFromAndToTheRowsWarmths();
        mouldByTheFirstRowThatFits();
        mouldOfTheLastCell();
        mouldAtMostAMillion();
        mouldNotBelowNought();
        oneMoreHourIsOver();
        CHECK.end();
    }

    /** Two cells, one of them damper by so much, each as damp as the air beside it: what moves, either way. */
    private static void moves(int vapour, int liquid, int[] damper, int[] moved) {
        for (int i = 0; i < damper.length; i++) {
            WallDamp x = Walls.plain(2, vapour, liquid);
            int more = 3000 + damper[i];
            Walls.air(x, more, 3000);
            x.water(0, more);
            x.water(1, 3000);
            x.run(1);
            CHECK.waters("inward by " + damper[i], x, more - moved[i], 3000 + moved[i]);
            WallDamp y = Walls.plain(2, vapour, liquid);
            Walls.air(y, 3000, more);
            y.water(0, 3000);
            y.water(1, more);
            y.run(1);
            CHECK.waters("outward by " + damper[i], y, 3000 + moved[i], more - moved[i]);
        }
    }

    /** "(damp of a less that of a + 1) times the lesser LIQUID number by 1000, rounded to 0" */
    private static void liquidIsRoundedToNoughtEitherWay() {
        moves(0, 1, new int[] {0, 1, 999, 1000, 1001, 1999, 2000}, new int[] {0, 0, 0, 1, 1, 1, 2});
    }

    /** "(pressure of a less that of a + 1) times the lesser VAPOUR number of both by 1000, rounded to 0" */
    private static void vapourIsRoundedToNoughtEitherWay() {
        moves(1, 0, new int[] {0, 1, 999, 1000, 1001, 1999, 2000}, new int[] {0, 0, 0, 1, 1, 1, 2});
    }

    private static void vapourAndLiquidEachRoundedThenTogether() {
        moves(100, 100, new int[] {9, 10, 19, 20}, new int[] {0, 2, 2, 4});
    }

    private static void theLesserNumberOfBoth() {
        int[][] numbers = {{0, 1000}, {1000, 0}, {1, 2}, {2, 1}, {999, 1000}, {1000, 999}, {7, 7}};
        for (int[] pair : numbers) {
            int lesser = Math.min(pair[0], pair[1]);
            for (int vapour = 0; vapour <= 1; vapour++) {
                WallDamp x = Walls.plain(2, 0, 0);
                x.curve(1, 10000, 10000);
                x.rates(0, vapour * pair[0], (1 - vapour) * pair[0], 100);
                x.rates(1, vapour * pair[1], (1 - vapour) * pair[1], 100);
                x.cell(1, 1, 10);
                Walls.air(x, 2000, 1000);
                x.water(0, 2000);
                x.water(1, 1000);
                x.run(1);
                CHECK.waters("numbers " + pair[0] + " and " + pair[1], x, 2000 - lesser, 1000 + lesser);
            }
        }
    }

    /**
     * "together: if that is above 0 it goes to a + 1, below 0 to a": a is warmer (750, pressure full 8500) and of damp
     * 2000, a + 1 colder (250, pressure full 3500) and of damp 4000, so vapour goes 1700 - 1400 inward, liquid outward.
     */
    private static void vapourAndLiquidTogetherAboveBelowAndAtNought() {
        int[] liquid = {149, 150, 151};
        int[] inward = {2, 0, -2};
        for (int i = 0; i < liquid.length; i++) {
            WallDamp x = new WallDamp(2);
            x.curve(0, 10000, 10000);
            x.films(0, 0);
            x.table(0, 1000);
            x.table(1000, 11000);
            x.rates(0, 1000, liquid[i], 100);
            x.outside(0, 1000, 1546, 0, 0);
            x.inside(0, 0, 10000);
            x.water(0, 2000);
            x.water(1, 4000);
            x.run(1);
            CHECK.same("nothing goes out", x.balance(3) + x.balance(1), 0);
            CHECK.same("400 go in", x.balance(4), 400);
            CHECK.waters("liquid " + liquid[i], x, 2000 - inward[i], 4000 + inward[i] - 400);
        }
    }

    /** "together": one flow, of which one part is rounded down if too much would leave or come. */
    private static void vapourAndLiquidAreOneFlow() {
        WallDamp x = new WallDamp(2);
        x.curve(0, 10, 10000);
        x.table(0, 1000);
        x.rates(0, 1000, 1000, 100);
        x.water(0, 10);
        x.run(1);
        CHECK.waters("1000 out, 1000 and 10000 inward of 10", x, 1, 9);
        WallDamp y = Walls.plain(2, 1000, 1000);
        y.curve(1, 8, 8);
        y.rates(1, 1000, 1000, 100);
        y.cell(1, 1, 10);
        y.leak(1, 1000);
        Walls.air(y, 20, 5);
        y.water(0, 20);
        y.run(1);
        CHECK.waters("20 and 20 inward of 20, and 5 and 5 from the inside, into 8", y, 20 - 5, 5 + 1 + 1);
        WallDamp z = new WallDamp(2);
        z.curve(0, 5, 2000);
        z.curve(1, 10, 4000);
        z.films(0, 0);
        z.table(0, 1000);
        z.table(1000, 11000);
        z.rates(0, 1000, 150, 100);
        z.rates(1, 1000, 150, 100);
        z.cell(1, 1, 10);
        z.outside(0, 1000, 1546, 0, 0);
        z.inside(0, 0, 10000);
        z.water(0, 5);
        z.water(1, 10);
        z.run(1);
        CHECK.waters("300 each way are nothing, and 400 go in of 10", z, 5, 0);
    }

    /** "FLOWS, all by what is there at the hour's beginning" */
    private static void allByWhatIsThereAtTheBeginning() {
        WallDamp x = Walls.plain(4, 0, 1000);
        x.water(0, 100);
        x.run(1);
        CHECK.waters("one cell further each hour", x, 0, 100, 0, 0);
        x.run(1);
        CHECK.waters("both ways from there", x, 50, 0, 50, 0);
        x.run(1);
        CHECK.waters("and on", x, 0, 75, 0, 25);
        WallDamp y = Walls.plain(2, 0, 1000);
        y.water(0, 40);
        y.water(1, 10);
        y.run(1);
        CHECK.waters("by 40 less 10, not by what has moved", y, 10, 40);
    }

    /**
     * Two cells of damp 5000 with vapour 1, the air on one side damper or drier: what comes to the cell beside it,
     * or goes, as the balances of that side tell.
     */
    private static void comesFromTheAir(boolean outer) {
        int[] damper = {-2000, -1999, -1000, -999, -1, 0, 1, 999, 1000, 1999, 2000};
        int[] comes = {-2, -1, -1, 0, 0, 0, 0, 0, 1, 1, 2};
        int came = outer ? 1 : 2;
        int went = outer ? 3 : 4;
        for (int i = 0; i < damper.length; i++) {
            WallDamp x = Walls.plain(2, 1, 0);
            Walls.air(x, outer ? 5000 + damper[i] : 5000, outer ? 5000 : 5000 + damper[i]);
            x.water(0, 5000);
            x.water(1, 5000);
            x.run(1);
            CHECK.waters("air by " + damper[i], x, 5000 + (outer ? comes[i] : 0), 5000 + (outer ? 0 : comes[i]));
            CHECK.same("came by " + damper[i], x.balance(came), Math.max(0, comes[i]));
            CHECK.same("went by " + damper[i], x.balance(went), Math.max(0, -comes[i]));
            CHECK.same("nothing on the other side", x.balance(3 - came) + x.balance(7 - went), 0);
        }
    }

    /** "From the outside to cell 0: ... rounded to 0 (below 0 it goes out)" */
    private static void fromTheOutsideRoundedToNoughtEitherWay() {
        comesFromTheAir(true);
    }

    /** "RAIN times its LIQUID number by 100, rounded down" */
    private static void rainIsRoundedDown() {
        int[] rain = {0, 1, 1, 1, 1, 99, 100, 1000, 1000, 1000, 7};
        int[] liquid = {1000, 0, 99, 100, 199, 1, 1, 1, 1000, 0, 333};
        int[] comes = {0, 0, 0, 1, 1, 0, 1, 10, 10000, 0, 23};
        for (int i = 0; i < rain.length; i++) {
            WallDamp x = Walls.plain(1, 0, liquid[i]);
            x.outside(0, 0, 0, rain[i], 0);
            x.run(1);
            CHECK.same("rain " + rain[i] + ", liquid " + liquid[i], x.balance(1), comes[i]);
            CHECK.waters("rain " + rain[i] + ", liquid " + liquid[i], x, comes[i]);
        }
        WallDamp y = Walls.plain(3, 0, 1000);
        y.outside(0, 0, 0, 1, 0);
        y.run(1);
        CHECK.waters("rain comes to cell 0 alone", y, 10, 0, 0);
    }

    /** "From the inside to the last cell: likewise without rain." */
    private static void fromTheInsideRoundedToNoughtEitherWay() {
        comesFromTheAir(false);
    }

    /** "From the inside to each cell: ..., if that is above 0." */
    private static void leaksOnlyIfAboveNought() {
        int[] inner = {0, 1, 1999, 2000, 2001, 10000};
        int[] comes = {0, 0, 0, 0, 1, 8000};
        for (int i = 0; i < inner.length; i++) {
            WallDamp x = Walls.plain(2, 0, 0);
            Walls.air(x, 10000, inner[i]);
            x.water(0, 2000);
            x.leak(0, 1000);
            x.run(1);
            CHECK.waters("pressure inside " + inner[i], x, 2000 + comes[i], 0);
            CHECK.same("leaked from the inside", x.balance(2), comes[i]);
            CHECK.same("nothing leaks to the inside", x.balance(4), 0);
        }
    }

    /** "(pressure inside less that of the cell) times its LEAK by 1000, rounded down" */
    private static void leaksAreRoundedDown() {
        int[] inner = {1, 1, 999, 1000, 1999, 2000, 7, 10000};
        int[] leak = {999, 1000, 1, 1, 1, 1, 0, 1000};
        int[] comes = {0, 1, 0, 1, 1, 2, 0, 10000};
        for (int i = 0; i < inner.length; i++) {
            WallDamp x = Walls.plain(1, 0, 0);
            Walls.air(x, 0, inner[i]);
            x.leak(0, leak[i]);
            x.run(1);
            CHECK.same("pressure inside " + inner[i] + ", leak " + leak[i], x.balance(2), comes[i]);
        }
    }

    private static void everyCellMayLeak() {
        WallDamp x = Walls.plain(12, 0, 0);
        Walls.air(x, 0, 1000);
        for (int k = 0; k < 12; k++) {
            x.leak(k, 10 * (k + 1));
        }
        x.run(1);
        for (int k = 0; k < 12; k++) {
            CHECK.same("leaked to cell " + k, x.told(k, 0), 10 * (k + 1));
        }
        CHECK.same("all from the inside", x.balance(2), 780);
    }

    private static void oneCellIsTheFirstAndTheLast() {
        WallDamp x = Walls.plain(1, 100, 100);
        x.outside(0, 0, 3000, 5, 0);
        x.inside(0, 0, 2000);
        x.leak(0, 300);
        x.run(1);
        CHECK.same("vapour 300 and rain 5 from the outside", x.balance(1), 305);
        CHECK.same("vapour 200 and a leak of 600 from the inside", x.balance(2), 800);
        CHECK.waters("all of it", x, 1105);
    }

    /** "All that would leave a cell together may be more than its water": it is not if it is just as much. */
    private static void leavingJustTheWater() {
        WallDamp x = Walls.plain(3, 0, 500);
        x.water(1, 10);
        x.run(1);
        CHECK.waters("5 each way of 10", x, 5, 0, 5);
        WallDamp y = Walls.plain(2, 0, 1000);
        y.water(0, 10);
        y.run(1);
        CHECK.waters("10 of 10", y, 0, 10);
        WallDamp z = Walls.plain(1, 500, 0);
        z.water(0, 10000);
        z.run(1);
        CHECK.same("5000 out", z.balance(3), 5000);
        CHECK.same("5000 in", z.balance(4), 5000);
        CHECK.waters("and nothing stays", z, 0);
    }

    /** "then each of these is itself times the water by all of them, rounded down" */
    private static void leavingMoreThanTheWater() {
        WallDamp x = Walls.plain(3, 0, 1000);
        x.water(1, 9);
        x.run(1);
        CHECK.waters("9 each way of 9", x, 4, 1, 4);
        WallDamp y = new WallDamp(1);
        y.curve(0, 10, 10000);
        y.rates(0, 1000, 0, 100);
        y.table(0, 100000);
        y.water(0, 7);
        y.run(1);
        CHECK.same("3 of 7 out", y.balance(3), 3);
        CHECK.same("3 of 7 in", y.balance(4), 3);
        CHECK.waters("1 of 7 stays", y, 1);
        WallDamp z = new WallDamp(2);
        z.curve(0, 10, 10000);
        z.rates(0, 0, 1000, 100);
        z.water(0, 3);
        z.run(1);
        CHECK.waters("one flow of 3000 takes all of 3", z, 0, 3);
        WallDamp great = new WallDamp(2);
        great.curve(0, 100000, 10000);
        great.table(0, 100000);
        great.rates(0, 1000, 1000, 100);
        great.water(0, 100000);
        great.run(1);
        CHECK.same("100000 out and 110000 inward of 100000: out", great.balance(3), 47619);
        CHECK.waters("100000 out and 110000 inward of 100000", great, 1, 52380);
    }

    private static void leavingUnlikeParts() {
        WallDamp x = Walls.plain(3, 0, 1000);
        x.curve(1, 10000, 10000);
        x.rates(1, 0, 200, 100);
        x.cell(0, 1, 10);
        x.water(1, 100);
        x.run(1);
        CHECK.waters("20 outward and 100 inward of 100", x, 16, 1, 83);
    }

    private static void leavingAnEmptyCell() {
        WallDamp x = Walls.plain(3, 1000, 1000);
        x.run(1);
        CHECK.waters("nothing leaves an empty cell", x, 0, 0, 0);
        CHECK.same("nothing went", x.balance(3) + x.balance(4), 0);
        WallDamp y = new WallDamp(2);
        y.curve(0, 1000000, 10000);
        y.rates(0, 1000, 1000, 100);
        y.table(0, 10000);
        y.water(0, 99);
        y.run(1);
        CHECK.waters("nor one whose damp is rounded down to 0", y, 99, 0);
    }

    /** "All that would then come to a cell together may be more than MOST less its water": not if just as much. */
    private static void comingJustTheRoom() {
        WallDamp x = new WallDamp(1);
        x.curve(0, 30, 10000);
        x.rates(0, 0, 1000, 100);
        x.outside(0, 0, 0, 3, 0);
        x.outside(1, 0, 0, 1, 0);
        x.run(1);
        CHECK.waters("30 into 30", x, 30);
        x.water(0, 20);
        x.run(1);
        CHECK.waters("10 into 10", x, 30);
        WallDamp y = new WallDamp(1);
        y.curve(0, 60, 10000);
        y.rates(0, 300, 1000, 100);
        y.table(0, 100);
        y.outside(0, 0, 10000, 3, 0);
        y.run(1);
        CHECK.waters("30 by vapour and 30 by rain into 60", y, 60);
    }

    /** "then each of these is itself times that room by all of them, rounded down" */
    private static void comingMoreThanTheRoom() {
        WallDamp x = new WallDamp(1);
        x.curve(0, 29, 10000);
        x.rates(0, 0, 1000, 100);
        x.outside(0, 0, 0, 3, 0);
        x.run(1);
        CHECK.waters("30 into 29", x, 29);
        WallDamp y = new WallDamp(1);
        y.curve(0, 59, 10000);
        y.rates(0, 300, 1000, 100);
        y.table(0, 100);
        y.outside(0, 0, 10000, 3, 0);
        y.run(1);
        CHECK.waters("30 by vapour and 30 by rain into 59: 29 each", y, 58);
        WallDamp great = new WallDamp(1);
        great.curve(0, 99999, 10000);
        great.rates(0, 1000, 1000, 100);
        great.table(0, 100000);
        great.outside(0, 0, 10000, 1000, 0);
        great.inside(0, 0, 10000);
        great.leak(0, 1000);
        great.run(1);
        CHECK.same("100000 and 10000 of 310000 into 99999, each rounded down", great.balance(1), 32257 + 3225);
        CHECK.same("100000 and 100000 of 310000 into 99999, each rounded down", great.balance(2), 32257 + 32257);
    }

    private static void comingUnlikeParts() {
        WallDamp x = new WallDamp(3);
        x.curve(0, 10000, 10000);
        x.curve(1, 100, 100);
        x.rates(0, 0, 1000, 100);
        x.rates(1, 0, 1000, 100);
        x.cell(1, 1, 10);
        x.table(0, 20);
        x.inside(0, 0, 10000);
        x.leak(1, 1000);
        x.water(0, 200);
        x.water(2, 80);
        x.run(1);
        CHECK.waters("200 inward, 80 outward and 20 by a leak into 100", x, 134, 66 + 26 + 6, 54);
        CHECK.same("leaked", x.balance(2), 6);
    }

    private static void comingToAFullCell() {
        WallDamp x = Walls.plain(3, 0, 1000);
        x.curve(1, 50, 50);
        x.rates(1, 0, 1000, 100);
        x.cell(1, 1, 10);
        x.water(0, 9000);
        x.water(1, 50);
        x.water(2, 9000);
        x.leak(1, 1000);
        Walls.air(x, 0, 10000);
        x.run(1);
        CHECK.waters("nothing comes to a full cell", x, 9000, 50, 9000);
        CHECK.same("no leak either", x.balance(2), 0);
    }

    private static void comingToACellThatHoldsNothing() {
        WallDamp x = Walls.plain(3, 1000, 1000);
        x.rates(1, 1000, 1000, 100);
        x.cell(1, 1, 10);
        x.leak(1, 1000);
        Walls.air(x, 5000, 5000);
        x.water(0, 5000);
        x.water(2, 5000);
        x.run(3);
        CHECK.waters("MOST is 0 in between", x, 5000, 0, 5000);
        CHECK.same("nothing came", x.balance(1) + x.balance(2), 0);
        WallDamp y = new WallDamp(1);
        y.rates(0, 1000, 1000, 100);
        y.table(0, 100000);
        y.outside(0, 0, 10000, 1000, 0);
        y.inside(0, 0, 10000);
        y.leak(0, 1000);
        y.run(1);
        CHECK.waters("MOST is 0 in a wall of one", y, 0);
        CHECK.same("nothing came to it", y.balance(1) + y.balance(2), 0);
    }

    /** "MOST less its water (as it was at the beginning)": what leaves in the hour makes no room in it. */
    private static void roomAsItWasAtTheBeginning() {
        WallDamp x = new WallDamp(2);
        x.curve(0, 100, 100);
        x.rates(0, 0, 1000, 100);
        x.outside(0, 0, 0, 50, 0);
        x.outside(1, 0, 0, 50, 0);
        x.water(0, 100);
        x.run(1);
        CHECK.waters("a full cell gave all and took no rain", x, 0, 100);
        CHECK.same("no rain came", x.balance(1), 0);
        WallDamp y = new WallDamp(2);
        y.curve(0, 100, 100);
        y.rates(0, 0, 1000, 100);
        y.outside(0, 0, 0, 50, 0);
        y.water(0, 99);
        y.run(1);
        CHECK.waters("room for 1 when 99 leave", y, 1, 99);
        CHECK.same("rain for that room", y.balance(1), 1);
    }

    /** "All that would then come": of what may leave, not of what would have left. */
    private static void whatThenComesIsWhatMayLeave() {
        WallDamp x = new WallDamp(2);
        x.curve(0, 10, 10000);
        x.curve(1, 8, 8);
        x.rates(0, 0, 1000, 100);
        x.rates(1, 0, 1000, 100);
        x.cell(1, 1, 10);
        x.table(0, 4);
        x.inside(0, 0, 10000);
        x.leak(1, 1000);
        x.water(0, 5);
        x.run(1);
        CHECK.waters("5 (not 5000) and a leak of 4 into 8", x, 1, 4 + 3);
        CHECK.same("3 leaked", x.balance(2), 3);
    }

    /** "So much moves.": what finds no room stays where it was, and goes no other way instead. */
    private static void whatFindsNoRoomStays() {
        WallDamp x = Walls.plain(3, 0, 1000);
        x.curve(1, 1, 1);
        x.rates(1, 0, 1000, 100);
        x.cell(2, 1, 10);
        x.water(1, 100);
        x.run(1);
        CHECK.waters("50 outward, 1 of 50 inward", x, 50, 49, 1);
        CHECK.same("none lost", x.balance(0), 100);
    }

    private static WallDamp held(int water) {
        WallDamp x = Walls.plain(1, 0, 0);
        x.water(0, water);
        return x;
    }

    private static void warmth(WallDamp x, int hour, int warmth) {
        x.outside(hour, warmth, 0, 0, 0);
        x.inside(hour, warmth, 0);
    }

    /** "a cell that is not FROZEN is so if its warmth is below 0 and its damp is 9000 or more" */
    private static void frozenBelowNoughtAndFromNineThousand() {
        int[] warmths = {-5000, -1, -1, -1, 0, 1, 5000, -5000};
        int[] damps = {9000, 9000, 10000, 8999, 10000, 10000, 10000, 0};
        int[] frozen = {1, 1, 1, 0, 0, 0, 0, 0};
        for (int i = 0; i < warmths.length; i++) {
            WallDamp x = held(damps[i]);
            warmth(x, 0, warmths[i]);
            x.run(1);
            CHECK.same("frozen at warmth " + warmths[i] + " and damp " + damps[i], x.told(0, 4), frozen[i]);
            CHECK.same("no pass yet", x.told(0, 3), 0);
        }
    }

    /** "one that is FROZEN and has a warmth of 0 or more is so no more" */
    private static void frozenUntilNoughtOrMore() {
        int[] warmths = {-5000, -1, 0, 1, 5000};
        int[] frozen = {1, 1, 0, 0, 0};
        for (int water = 0; water <= 10000; water += 10000) {
            for (int i = 0; i < warmths.length; i++) {
                WallDamp x = held(9000);
                warmth(x, 0, -1);
                warmth(x, 1, warmths[i]);
                x.run(1);
                x.water(0, water);
                x.run(1);
                String what = "at warmth " + warmths[i] + " with water " + water;
                CHECK.same("frozen then " + what, x.told(0, 4), frozen[i]);
                CHECK.same("passes then " + what, x.told(0, 3), 1 - frozen[i]);
            }
        }
    }

    /** "and has one PASS more" */
    private static void onePassEachThaw() {
        WallDamp x = held(10000);
        for (int hour = 0; hour < 24; hour++) {
            warmth(x, hour, hour % 3 == 0 ? ALWAYS_COLD : hour % 3 - 1);
        }
        for (int hour = 0; hour < 72; hour++) {
            x.run(1);
            CHECK.same("frozen with " + hour + " hours over", x.told(0, 4), hour % 3 == 0 ? 1 : 0);
            CHECK.same("passes with " + hour + " hours over", x.told(0, 3), (hour + 2) / 3);
        }
        WallDamp y = Walls.plain(3, 0, 0);
        y.water(1, 9000);
        warmth(y, 0, ALWAYS_COLD);
        y.run(2);
        CHECK.same("a dry cell has no pass", y.told(0, 3), 0);
        CHECK.same("the wet one has", y.told(1, 3), 1);
        CHECK.same("the last one has none", y.told(2, 3), 0);
    }

    /** "So much moves. Then: ...": two cells with liquid 1000 change their waters in an hour. */
    private static void frozenByTheDampBehindTheMoves() {
        int[] outer = {9000, 9000, 8999, 9000};
        int[] inner = {0, 8999, 9000, 9000};
        int[] outerFrozen = {0, 0, 1, 1};
        int[] innerFrozen = {1, 1, 0, 1};
        for (int i = 0; i < outer.length; i++) {
            WallDamp x = Walls.plain(2, 0, 1000);
            warmth(x, 0, ALWAYS_COLD);
            x.water(0, outer[i]);
            x.water(1, inner[i]);
            x.run(1);
            CHECK.waters("changed", x, inner[i], outer[i]);
            CHECK.same("the outer one, of " + inner[i] + " now", x.told(0, 4), outerFrozen[i]);
            CHECK.same("the inner one, of " + outer[i] + " now", x.told(1, 4), innerFrozen[i]);
        }
    }

    private static void mouldByTheDampBehindTheMoves() {
        int[] outer = {3000, 2999, 3000};
        int[] inner = {0, 3000, 2999};
        int[] mould = {7, 0, 7};
        for (int i = 0; i < outer.length; i++) {
            WallDamp x = Walls.plain(2, 0, 1000);
            x.growth(3000, -5000, 10000, 7);
            x.water(0, outer[i]);
            x.water(1, inner[i]);
            x.run(1);
            CHECK.same("the last cell, of " + outer[i] + " now", x.mould(), mould[i]);
        }
    }

    /** "the last cell's damp is not less than the row's" */
    private static void mouldFromTheRowsDamp() {
        int[] row = {0, 1, 5000, 5000, 5000, 10000, 10000};
        int[] damp = {0, 0, 4999, 5000, 5001, 9999, 10000};
        int[] mould = {7, 0, 0, 7, 7, 0, 7};
        for (int i = 0; i < row.length; i++) {
            WallDamp x = held(damp[i]);
            x.growth(row[i], -5000, 10000, 7);
            x.run(1);
            CHECK.same("row of " + row[i] + " at damp " + damp[i], x.mould(), mould[i]);
        }
    }

    /** "and its warmth is from .. to" */
    private static void mouldFromAndToTheRowsWarmths() {
        int[] warmths = {-5000, -101, -100, -99, 199, 200, 201, 5000};
        int[] mould = {0, 0, 7, 7, 7, 7, 0, 0};
        for (int i = 0; i < warmths.length; i++) {
            WallDamp x = held(0);
            x.growth(0, -100, 200, 7);
            warmth(x, 0, warmths[i]);
            x.run(1);
            CHECK.same("a row of -100 .. 200 at " + warmths[i], x.mould(), mould[i]);
            WallDamp y = held(0);
            y.growth(0, warmths[i], warmths[i], 9);
            warmth(y, 0, warmths[i]);
            y.run(1);
            CHECK.same("a row of this warmth alone " + warmths[i], y.mould(), 9);
        }
    }

    /** "of the rows that are told the first" */
    private static void mouldByTheFirstRowThatFits() {
        WallDamp x = held(6000);
        int[][] rows = {{6001, -5000, 10000, 1}, {0, 1, 10000, 2}, {0, -5000, -1, 3}, {6000, 0, 0, 4},
            {0, -5000, 10000, 5}, {6000, 0, 0, 6}};
        for (int[] row : rows) {
            x.growth(row[0], row[1], row[2], row[3]);
        }
        x.run(1);
        CHECK.same("the fourth is the first that fits", x.mould(), 4);
        x.water(0, 5999);
        x.run(1);
        CHECK.same("then the fifth", x.mould(), 4 + 5);
        x.water(0, 6001);
        x.run(1);
        CHECK.same("then the first of all", x.mould(), 4 + 5 + 1);
        WallDamp y = held(0);
        for (int i = 1; i <= 5; i++) {
            y.growth(10000, 0, 0, i);
        }
        y.growth(0, 0, 0, 1000);
        y.run(1);
        CHECK.same("the sixth row alone fits", y.mould(), 1000);
    }

    private static void mouldOfTheLastCell() {
        WallDamp x = Walls.plain(3, 0, 0);
        x.growth(5000, -5000, 10000, 7);
        x.water(0, 10000);
        x.water(1, 10000);
        x.run(1);
        CHECK.same("only the last cell counts: its damp", x.mould(), 0);
        x.water(2, 5000);
        x.run(1);
        CHECK.same("its damp now", x.mould(), 7);
        WallDamp y = Walls.plain(2, 0, 0);
        y.growth(0, 600, 650, 7);
        y.outside(0, 1000, 0, 0, 0);
        y.inside(1, 1000, 0);
        y.run(1);
        CHECK.same("only the last cell counts: its warmth", y.mould(), 0);
        y.run(1);
        CHECK.same("its warmth now", y.mould(), 7);
    }

    private static WallDamp mouldy(int mould) {
        WallDamp x = held(9000);
        x.growth(9000, 0, 0, 1000);
        x.growth(8000, 0, 0, 1);
        for (int i = 0; i < mould / 1000 / 200; i++) {
            x.run(200);
        }
        x.water(0, 0);
        x.run(1);
        x.water(0, 9000);
        return x;
    }

    /** "tells how much more the MOULD is (at most 1000000)" */
    private static void mouldAtMostAMillion() {
        WallDamp x = mouldy(1000000);
        CHECK.same("one less than a million", x.mould(), 999999);
        x.water(0, 8000);
        x.run(1);
        CHECK.same("one more", x.mould(), 1000000);
        x.run(1);
        CHECK.same("not one more than a million", x.mould(), 1000000);
        x.water(0, 9000);
        x.run(1);
        CHECK.same("nor a thousand more", x.mould(), 1000000);
        x.water(0, 0);
        x.run(2);
        CHECK.same("from there it is less", x.mould(), 999998);
        x.water(0, 9000);
        x.run(1);
        CHECK.same("a thousand more are too many", x.mould(), 1000000);
    }

    /** "without such a one it is 1 less, not below 0" */
    private static void mouldNotBelowNought() {
        WallDamp x = held(0);
        x.run(3);
        CHECK.same("no rows, nothing", x.mould(), 0);
        x.growth(1, -5000, 10000, 2);
        x.run(1);
        CHECK.same("no row that fits, nothing", x.mould(), 0);
        x.water(0, 1);
        x.run(1);
        x.water(0, 0);
        int[] mould = {1, 0, 0, 0};
        CHECK.same("two", x.mould(), 2);
        for (int hour = 0; hour < mould.length; hour++) {
            x.run(1);
            CHECK.same("hour " + hour + " without a row that fits", x.mould(), mould[hour]);
        }
        x.water(0, 1);
        x.run(1);
        CHECK.same("no debt was kept", x.mould(), 2);
    }

    /** "Then one more hour is over." */
    private static void oneMoreHourIsOver() {
        WallDamp x = Walls.plain(1, 0, 0);
        warmth(x, 0, 100);
        warmth(x, 1, 200);
        CHECK.same("the first hour", x.run(1), 1);
        CHECK.same("was hour 0", x.told(0, 2), 100);
        CHECK.same("the second hour", x.run(1), 2);
        CHECK.same("was hour 1", x.told(0, 2), 200);
    }
}
