/** Promise 17: which order of the layers would stay driest. */
public final class OrderTest {
    private static final Check CHECK = new Check();

    public static void main(String[] args) {
        wrongNumbers();
        tightLayerOutside();
        firstOfEquals();
        leaksGoWithTheirLayers();
        thicknessesGoWithTheirLayers();
        hoursMatter();
        nothingIsChanged();
        ownRunBeginsAtHourNought();
        CHECK.end();
    }

    private static void row(String what, WallDamp x, int hours, int... due) {
        for (int k = 0; k < due.length; k++) {
            CHECK.same(what + ", place " + k, x.order(hours, k), due[k]);
        }
    }

    private static void wrongNumbers() {
        WallDamp five = new WallDamp(5);
        CHECK.illegalArgument("0 hours", () -> five.order(0, 0));
        CHECK.illegalArgument("49 hours", () -> five.order(49, 0));
        CHECK.illegalArgument("place -1", () -> five.order(1, -1));
        CHECK.illegalArgument("place 5", () -> five.order(1, 5));
        row("five cells may be tried", five, 48, 0, 1, 2, 3, 4);
        WallDamp six = new WallDamp(6);
        CHECK.illegalState("six cells", () -> six.order(1, 5));
        CHECK.illegalArgument("six cells, illegal argument comes first", () -> six.order(1, 6));
        CHECK.illegalArgument("six cells, 49 hours", () -> six.order(49, 0));
        row("one cell", new WallDamp(1), 48, 0);
    }

    private static void tightLayerOutside() {
        WallDamp x = new WallDamp(5);
        for (int m = 0; m < 5; m++) {
            x.curve(m, 1000000, 10000);
            x.rates(m, 0, 500 - 100 * m, 100);
            x.cell(m, m, 10);
        }
        x.outside(0, 0, 0, 10, 0);
        x.rates(2, 0, 7, 100);
        row("the least liquid number outside, then as they stand", x, 1, 2, 0, 1, 3, 4);
        x.rates(2, 0, 900, 100);
        row("the last layer outside", x, 1, 4, 0, 1, 2, 3);
    }

    private static void firstOfEquals() {
        WallDamp x = new WallDamp(3);
        x.curve(0, 1000000, 10000);
        x.curve(1, 1000000, 10000);
        x.rates(0, 0, 1000, 100);
        x.cell(1, 1, 10);
        x.cell(2, 1, 10);
        x.outside(0, 0, 0, 10, 0);
        row("two equal layers, the lesser cell first", x, 3, 1, 0, 2);
    }

    private static void leaksGoWithTheirLayers() {
        WallDamp x = new WallDamp(2);
        x.curve(0, 50, 10000);
        x.curve(1, 50, 10000);
        x.rates(1, 1000, 0, 100);
        x.table(0, 1);
        x.table(1000, 101);
        x.inside(0, 1000, 10000);
        x.inside(1, 0, 0);
        x.leak(0, 400);
        x.cell(0, 0, 10);
        x.cell(1, 1, 10);
        row("the open layer inside fills by vapour and dries again", x, 1, 1, 0);
        x.leak(0, 1000);
        x.leak(1, 1000);
        CHECK.same("the call answers the same twice", x.order(2, 0), x.order(2, 0));
    }

    private static void thicknessesGoWithTheirLayers() {
        WallDamp x = new WallDamp(2);
        x.curve(0, 100000, 10000);
        x.table(0, 10);
        x.table(1000, 10010);
        x.inside(0, 1000, 10000);
        x.inside(1, 1000, 10000);
        x.leak(0, 1000);
        x.leak(1, 1000);
        x.cell(1, 0, 1000);
        row("dry cells all take the same", x, 1, 0, 1);
        row("the thick layer outside keeps the other warm", x, 2, 1, 0);
    }

    private static void hoursMatter() {
        WallDamp x = new WallDamp(2);
        x.curve(0, 1000000, 10000);
        x.curve(1, 1000000, 10000);
        x.rates(0, 0, 100, 100);
        x.rates(1, 1000, 10, 100);
        x.cell(1, 1, 10);
        x.table(0, 100);
        x.outside(0, 0, 0, 100, 0);
        x.outside(1, 0, 10000, 0, 0);
        row("one hour: rain alone", x, 1, 1, 0);
        for (int hour = 1; hour < 24; hour++) {
            x.outside(hour, 0, 10000, 0, 0);
            x.inside(hour, 0, 0);
        }
        row("a day: vapour from the outside outweighs it", x, 24, 0, 1);
    }

    private static void nothingIsChanged() {
        WallDamp x = new WallDamp(4);
        x.curve(0, 500, 10000);
        x.curve(1, 900, 9000);
        x.rates(0, 400, 300, 50);
        x.rates(1, 100, 800, 200);
        x.cell(1, 1, 30);
        x.cell(3, 1, 70);
        x.table(-1000, 100);
        x.table(3000, 4000);
        x.growth(1, -5000, 10000, 3);
        for (int hour = 0; hour < 24; hour++) {
            x.outside(hour, 100 * hour - 900, 9000, hour, 3 * hour);
            x.inside(hour, 2000, 5000);
        }
        x.water(2, 480);
        x.run(7);
        String before = allTold(x);
        x.order(48, 3);
        CHECK.holds("all is as before: " + before + " " + allTold(x), before.equals(allTold(x)));
        CHECK.same("the hours too", x.run(1), 8);
    }

    private static String allTold(WallDamp x) {
        StringBuilder all = new StringBuilder();
        for (int what = 0; what < 6; what++) {
            for (int k = 0; k < 4; k++) {
                all.append(x.told(k, what)).append(' ');
            }
            all.append(x.balance(what)).append(' ');
        }
        return all.append(x.mould()).toString();
    }

    private static void ownRunBeginsAtHourNought() {
        WallDamp x = new WallDamp(2);
        x.curve(0, 1000, 10000);
        x.curve(1, 1000, 10000);
        x.rates(0, 0, 1000, 100);
        x.cell(1, 1, 10);
        x.outside(0, 0, 0, 5, 0);
        x.water(0, 1000);
        row("dry at its beginning, rain in hour 0", x, 1, 1, 0);
        x.run(5);
        row("behind hours of the wall itself", x, 1, 1, 0);
        x.outside(0, 0, 0, 0, 0);
        x.outside(5, 0, 0, 5, 0);
        row("rain in a later hour", x, 5, 0, 1);
        row("rain in the last hour", x, 6, 1, 0);
    }
}
