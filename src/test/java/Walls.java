/** Walls in which every number that was told matters, and all that can be seen of a wall as one text. */
final class Walls {
    static final int RICH_CELLS = 4;
    private static final int[] LOOKED_AT = {-5000, -1500, -700, 0, 1, 1900, 2500, 10000};

    private Walls() {
    }

    /** Pressure, damp and water are one number (0 .. 10000) in its cells, so that flows can be read off the waters. */
    static WallDamp plain(int cells, int vapour, int liquid) {
        WallDamp x = new WallDamp(cells);
        x.curve(0, 10000, 10000);
        x.table(0, 10000);
        x.rates(0, vapour, liquid, 100);
        return x;
    }

    /** The damps of the air on both sides, in every hour, at warmth 0. */
    static void air(WallDamp x, int outer, int inner) {
        for (int hour = 0; hour < 24; hour++) {
            x.outside(hour, 0, outer, 0, 0);
            x.inside(hour, 0, inner);
        }
    }

    /** Four cells of four materials, wet, in a lively climate; no hour is over. */
    static WallDamp rich() {
        WallDamp x = new WallDamp(RICH_CELLS);
        x.curve(0, 400, 3000);
        x.curve(0, 1000, 9900);
        x.curve(1, 300, 9000);
        x.curve(1, 500, 9600);
        x.curve(2, 5000, 9800);
        x.curve(3, 50, 500);
        x.curve(3, 80, 9500);
        x.rates(0, 300, 200, 50);
        x.rates(1, 40, 30, 400);
        x.rates(2, 700, 500, 20);
        x.rates(3, 900, 900, 700);
        x.cell(0, 2, 20);
        x.cell(1, 0, 35);
        x.cell(2, 1, 8);
        x.cell(3, 3, 60);
        x.table(-1500, 100);
        x.table(0, 600);
        x.table(2500, 3100);
        x.films(7, 13);
        for (int hour = 0; hour < 24; hour++) {
            x.outside(hour, 150 * hour - 1400, 4000 + 200 * hour, hour % 4 * 60, 9 * hour);
            x.inside(hour, 1900 - 10 * hour, 3500 + 100 * hour);
        }
        x.leak(1, 5);
        x.leak(2, 20);
        x.growth(3000, -500, 5000, 9);
        x.growth(0, 0, 800, 2);
        x.water(0, 1700);
        x.water(1, 350);
        x.water(2, 260);
        x.water(3, 60);
        return x;
    }

    /** The same wall, behind more than a day. */
    static WallDamp richBehindHours() {
        WallDamp x = rich();
        x.run(30);
        return x;
    }

    /** Six cells of which nothing more can be told that has a bound in number: corners, rows, hours. */
    static WallDamp exhausted() {
        WallDamp x = new WallDamp(6);
        for (int material = 0; material < 6; material++) {
            for (int i = 1; i <= 6; i++) {
                x.curve(material, 100 * i, 1000 * i);
            }
            x.rates(material, 100 + material, 90 + material, 40);
        }
        for (int i = 1; i <= 8; i++) {
            x.table(100 * i, 200 * i);
        }
        for (int i = 1; i <= 6; i++) {
            x.growth(1000 * i, 0, 5000, i);
        }
        x.outside(3, 900, 9000, 20, 30);
        x.inside(15, 700, 8000);
        for (int i = 0; i < 41; i++) {
            x.run(240);
        }
        x.run(160);
        return x;
    }

    /** All that a wall tells. */
    static String portrait(WallDamp x, int cells) {
        StringBuilder text = new StringBuilder();
        for (int what = 0; what < 6; what++) {
            for (int k = 0; k < cells; k++) {
                text.append(x.told(k, what)).append(' ');
            }
            text.append("| ").append(x.balance(what)).append(' ');
        }
        for (int warmth : LOOKED_AT) {
            text.append(x.full(warmth)).append(' ');
        }
        return text.append("mould ").append(x.mould()).append('\n').toString();
    }

    /**
     * What a wall answers from now on, so that what it holds unseen can be compared too. Some 350 calls: nothing is
     * promised of an object behind its 512th.
     */
    static String future(WallDamp x, int cells) {
        StringBuilder text = new StringBuilder(portrait(x, cells));
        for (int hours = 1; hours <= 25; hours += 8) {
            for (int k = 0; k < cells; k++) {
                int span = hours;
                int place = k;
                text.append("order ").append(Check.outcome(() -> x.order(span, place))).append('\n');
            }
        }
        for (int material = 0; material < 6; material++) {
            int one = material;
            text.append("curve ").append(Check.outcome(() -> x.curve(one, 1000000, 10000))).append('\n');
        }
        for (int hour = 0; hour < 26; hour++) {
            text.append("run ").append(Check.outcome(() -> x.run(1))).append(' ').append(x.mould()).append(' ');
            for (int k = 0; k < cells; k++) {
                text.append(x.told(k, 0)).append(' ');
            }
        }
        text.append('\n').append(portrait(x, cells));
        for (int k = 0; k < cells; k++) {
            text.append("leak ").append(x.leak(k, 0)).append('\n');
        }
        text.append("table ").append(Check.outcome(() -> x.table(10000, 100000))).append('\n');
        text.append("growth ").append(Check.outcome(() -> x.growth(0, 0, 0, 1))).append('\n');
        return text.toString();
    }
}
