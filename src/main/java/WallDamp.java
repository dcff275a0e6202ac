/**
 * Damp in a wall of cells, hour by hour. The document ../shared/DOC.md says what each call promises;
 * words in capitals are its terms.
 */
public final class WallDamp {
    /** There is none. */
    public static final int NONE = -1;

    private static final int CELLS_MOST = 12;
    private static final int MATERIALS = 6;
    private static final int HELD_MOST = 1000000;
    private static final int DAMP_MOST = 10000;
    private static final int PRESSURE_MOST = 100000;
    private static final int WARMTH_LEAST = -5000;
    private static final int WARMTH_MOST = 10000;
    private static final int AIR_WARMTH_MOST = 5000;
    private static final int NUMBER_MOST = 1000;
    private static final int WHATS = 6;
    private static final int DAY = 24;
    private static final int RUN_MOST = 240;
    private static final int HOURS_MOST = 10000;
    private static final int FROST_DAMP = 9000;
    private static final int MOULD_MOST = 1000000;
    private static final int ORDER_HOURS_MOST = 48;
    private static final int ORDER_CELLS_MOST = 5;

    private final Material[] materials;
    private final Surroundings around;
    private final MouldRows mouldRows;
    private final Wall standing;
    private final Trials trials;
    private int hoursOver;
    private int mouldGrown;
    private long startWater;

    public WallDamp(int cells) {
        int size = Math.max(1, Math.min(CELLS_MOST, cells));
        materials = new Material[MATERIALS];
        for (int m = 0; m < materials.length; m++) {
            materials[m] = new Material();
        }
        around = new Surroundings();
        mouldRows = new MouldRows();
        standing = new Wall(size, materials[0]);
        trials = new Trials(new Wall(size, materials[0]));
        hoursOver = 0;
        mouldGrown = 0;
        startWater = 0;
    }

    // ---- what there is

    public int curve(int material, int held, int damp) throws IllegalArgumentException, IllegalStateException {
        Material stuff = materialOf(material);
        requireWithin(held, 0, HELD_MOST);
        requireWithin(damp, 0, DAMP_MOST);
        requireNoHourOver();
        return withCorner(stuff.damps, held, damp);
    }

    public void rates(int material, int vapour, int liquid, int leads) throws IllegalArgumentException {
        Material stuff = materialOf(material);
        requireWithin(vapour, 0, NUMBER_MOST);
        requireWithin(liquid, 0, NUMBER_MOST);
        requireWithin(leads, 1, NUMBER_MOST);
        stuff.vapour = vapour;
        stuff.liquid = liquid;
        stuff.leads = leads;
    }

    public void cell(int k, int material, int thickness) throws IllegalArgumentException, IllegalStateException {
        Cell place = cellAt(k);
        Material stuff = materialOf(material);
        requireWithin(thickness, 1, NUMBER_MOST);
        requireNoHourOver();
        startWater -= place.held;
        place.held = 0;
        place.material = stuff;
        place.thickness = thickness;
    }

    public int table(int warmth, int pressure) throws IllegalArgumentException, IllegalStateException {
        requireWithin(warmth, WARMTH_LEAST, WARMTH_MOST);
        requireWithin(pressure, 0, PRESSURE_MOST);
        return withCorner(around.fullPressures, warmth, pressure);
    }

    public int full(int warmth) throws IllegalArgumentException {
        requireWithin(warmth, WARMTH_LEAST, WARMTH_MOST);
        return around.fullPressures.heightAt(warmth);
    }

    public void films(int outer, int inner) throws IllegalArgumentException {
        requireWithin(outer, 0, NUMBER_MOST);
        requireWithin(inner, 0, NUMBER_MOST);
        around.outerFilm = outer;
        around.innerFilm = inner;
    }

    public void outside(int hour, int warmth, int damp, int rain, int sun) throws IllegalArgumentException {
        requireAir(hour, warmth, damp);
        requireWithin(rain, 0, NUMBER_MOST);
        requireWithin(sun, 0, NUMBER_MOST);
        around.outerWarmth[hour] = warmth;
        around.outerDamp[hour] = damp;
        around.rainFall[hour] = rain;
        around.sunShine[hour] = sun;
    }

    public void inside(int hour, int warmth, int damp) throws IllegalArgumentException {
        requireAir(hour, warmth, damp);
        around.innerWarmth[hour] = warmth;
        around.innerDamp[hour] = damp;
    }

    public int water(int k, int much) throws IllegalArgumentException {
        Cell place = cellAt(k);
        requireWithin(much, 0, place.material.most());
        int before = place.held;
        startWater += much - before;
        place.held = much;
        return before;
    }

    public int leak(int k, int rate) throws IllegalArgumentException {
        Cell place = cellAt(k);
        requireWithin(rate, 0, NUMBER_MOST);
        int before = place.leakRate;
        place.leakRate = rate;
        return before;
    }

    public int growth(int damp, int from, int to, int more) throws IllegalArgumentException, IllegalStateException {
        requireWithin(damp, 0, DAMP_MOST);
        requireWithin(to, WARMTH_LEAST, WARMTH_MOST);
        requireWithin(from, WARMTH_LEAST, to);
        requireWithin(more, 1, NUMBER_MOST);
        if (!mouldRows.hasPlace()) {
            throw new IllegalStateException("all rows of mould are told");
        }
        return mouldRows.add(damp, from, to, more);
    }

    // ---- hours

    public int run(int n) throws IllegalArgumentException, IllegalStateException {
        requireWithin(n, 1, RUN_MOST);
        if (hoursOver + n > HOURS_MOST) {
            throw new IllegalStateException("too many hours would be over");
        }
        for (int i = 0; i < n; i++) {
            passHour();
        }
        return hoursOver;
    }

    public int told(int k, int what) throws IllegalArgumentException {
        Cell place = cellAt(k);
        requireWithin(what, 0, WHATS - 1);
        switch (what) {
            case 0:
                return place.held;
            case 1:
                return place.dampOfHeld();
            case 2:
                return place.warmth;
            case 3:
                return place.passes;
            case 4:
                return place.frozen ? 1 : 0;
            default:
                return place.greatestDamp;
        }
    }

    public long balance(int what) throws IllegalArgumentException {
        requireWithin(what, 0, WHATS - 1);
        switch (what) {
            case 0:
                return standing.allWater();
            case 1:
                return standing.outerAir.gone;
            case 2:
                return standing.innerAir.gone;
            case 3:
                return standing.outerAir.come;
            case 4:
                return standing.innerAir.come;
            default:
                return startWater;
        }
    }

    public int mould() {
        return mouldGrown;
    }

    public int order(int hours, int k) throws IllegalArgumentException, IllegalStateException {
        requireWithin(hours, 1, ORDER_HOURS_MOST);
        requireWithin(k, 0, standing.cells.length - 1);
        if (standing.cells.length > ORDER_CELLS_MOST) {
            throw new IllegalStateException("there are more than 5 cells");
        }
        trials.findDriest(standing, around, hours);
        return trials.driest[k];
    }

    // ---- what the calls share

    private static void requireWithin(int number, int least, int most) {
        if (number < least || number > most) {
            throw new IllegalArgumentException("a number is out of its bounds");
        }
    }

    private static void requireAir(int hour, int warmth, int damp) {
        requireWithin(hour, 0, DAY - 1);
        requireWithin(warmth, WARMTH_LEAST, AIR_WARMTH_MOST);
        requireWithin(damp, 0, DAMP_MOST);
    }

    private void requireNoHourOver() {
        if (hoursOver > 0) {
            throw new IllegalStateException("an hour is over");
        }
    }

    private Material materialOf(int material) {
        requireWithin(material, 0, materials.length - 1);
        return materials[material];
    }

    private Cell cellAt(int k) {
        requireWithin(k, 0, standing.cells.length - 1);
        return standing.cells[k];
    }

    private static int withCorner(Corners corners, int x, int y) {
        if (!corners.canAdd(x, y)) {
            throw new IllegalStateException("no such corner can follow");
        }
        return corners.add(x, y);
    }

    private void passHour() {
        standing.moveWater(around, hoursOver);
        standing.tellFrost();
        growMould();
        hoursOver++;
    }

    private void growMould() {
        Cell last = standing.lastCell();
        int more = mouldRows.firstThatFits(last.dampOfHeld(), last.warmth);
        if (more == NONE) {
            mouldGrown = Math.max(0, mouldGrown - 1);
        } else {
            mouldGrown = Math.min(MOULD_MOST, mouldGrown + more);
        }
    }

    /** A line through corners that rise both ways: a material's CURVE, or the TABLE. */
    private static final class Corners {
        private static final int PLACES = 8;

        private final int[] xs;
        private final int[] ys;
        private final int limit;
        private int count;

        Corners(int limit) {
            this.xs = new int[PLACES];
            this.ys = new int[PLACES];
            this.limit = Math.min(limit, PLACES);
            this.count = 0;
        }

        boolean canAdd(int x, int y) {
            if (count >= limit) {
                return false;
            }
            return count == 0 || (x > xs[count - 1] && y > ys[count - 1]);
        }

        int add(int x, int y) {
            if (count < xs.length) {
                xs[count] = x;
                ys[count] = y;
                count++;
            }
            return count;
        }

        int lastX() {
            return count == 0 ? 0 : xs[count - 1];
        }

        int heightAt(int x) {
            if (count == 0) {
                return 0;
            }
            if (x <= xs[0]) {
                return ys[0];
            }
            for (int i = 1; i < count; i++) {
                int span = xs[i] - xs[i - 1];
                if (x <= xs[i] && span > 0) {
                    long rise = (long) (ys[i] - ys[i - 1]) * (x - xs[i - 1]);
                    return ys[i - 1] + (int) (rise / span);
                }
            }
            return ys[count - 1];
        }
    }

    private static final class Material {
        private static final int CORNERS_MOST = 7;
        private static final int LEADS_AT_FIRST = 100;

        final Corners damps;
        int vapour;
        int liquid;
        int leads;

        Material() {
            damps = new Corners(CORNERS_MOST);
            damps.add(0, 0);
            vapour = 0;
            liquid = 0;
            leads = LEADS_AT_FIRST;
        }

        int most() {
            return damps.lastX();
        }
    }

    /** All that is round the wall and no part of it: films, TABLE and CLIMATE. */
    private static final class Surroundings {
        private static final int TABLE_CORNERS_MOST = 8;
        private static final int FILM_AT_FIRST = 10;

        final Corners fullPressures;
        final int[] outerWarmth;
        final int[] outerDamp;
        final int[] rainFall;
        final int[] sunShine;
        final int[] innerWarmth;
        final int[] innerDamp;
        int outerFilm;
        int innerFilm;

        Surroundings() {
            fullPressures = new Corners(TABLE_CORNERS_MOST);
            outerWarmth = new int[DAY];
            outerDamp = new int[DAY];
            rainFall = new int[DAY];
            sunShine = new int[DAY];
            innerWarmth = new int[DAY];
            innerDamp = new int[DAY];
            outerFilm = FILM_AT_FIRST;
            innerFilm = FILM_AT_FIRST;
        }

        int pressureAt(int warmth, int damp) {
            return (int) ((long) fullPressures.heightAt(warmth) * damp / DAMP_MOST);
        }
    }

    /** The rows that tell how MOULD grows. */
    private static final class MouldRows {
        private static final int PLACES = 6;

        private final int[] damps;
        private final int[] froms;
        private final int[] tos;
        private final int[] mores;
        private int count;

        MouldRows() {
            damps = new int[PLACES];
            froms = new int[PLACES];
            tos = new int[PLACES];
            mores = new int[PLACES];
            count = 0;
        }

        boolean hasPlace() {
            return count < PLACES;
        }

        int add(int damp, int from, int to, int more) {
            if (count < PLACES) {
                damps[count] = damp;
                froms[count] = from;
                tos[count] = to;
                mores[count] = more;
                count++;
            }
            return count;
        }

        int firstThatFits(int damp, int warmth) {
            for (int i = 0; i < count; i++) {
                if (damp >= damps[i] && warmth >= froms[i] && warmth <= tos[i]) {
                    return mores[i];
                }
            }
            return NONE;
        }
    }

    /**
     * Where water leaves and comes to: a cell, or the air on one side of the wall. What an hour's flows
     * go by is fixed at its beginning: warmth, damp, pressure, the supply that can leave, the room for more.
     */
    private abstract static class Place {
        int warmth;
        int damp;
        int pressure;
        int supply;
        int room;
        int leaving;
        int coming;

        Place() {
            warmth = 0;
        }

        abstract void give(int much);

        abstract void take(int much);

        final void fixHour(int dampNow, int pressureNow, int supplyNow, int roomNow) {
            damp = dampNow;
            pressure = pressureNow;
            supply = supplyNow;
            room = roomNow;
            leaving = 0;
            coming = 0;
        }
    }

    /** Air gives and takes without end; what it gave and took is the BALANCE of its side. */
    private static final class Air extends Place {
        /** Far above all that can flow in an hour. */
        private static final int ENDLESS = 1000000000;

        long gone;
        long come;

        Air() {
            gone = 0;
            come = 0;
        }

        void give(int much) {
            gone += much;
        }

        void take(int much) {
            come += much;
        }

        void beginHour(Surroundings around, int dampNow) {
            fixHour(dampNow, around.pressureAt(warmth, dampNow), ENDLESS, ENDLESS);
        }
    }

    private static final class Cell extends Place {
        private static final int THICKNESS_AT_FIRST = 10;

        Material material;
        int thickness;
        int leakRate;
        int held;
        long way;
        int passes;
        int greatestDamp;
        boolean frozen;

        Cell(Material material) {
            this.material = material;
            this.thickness = THICKNESS_AT_FIRST;
        }

        void give(int much) {
            held -= much;
        }

        void take(int much) {
            held += much;
        }

        int dampOfHeld() {
            return material.damps.heightAt(held);
        }

        int resistance() {
            int leads = material.leads;
            return leads < 1 ? 0 : 100 * thickness / leads;
        }

        void layDry(Cell other) {
            material = other.material;
            thickness = other.thickness;
            leakRate = other.leakRate;
            held = 0;
        }

        void beginHour(Surroundings around) {
            int dampNow = dampOfHeld();
            fixHour(dampNow, around.pressureAt(warmth, dampNow), held, material.most() - held);
        }

        void endHour() {
            int dampThen = dampOfHeld();
            greatestDamp = Math.max(greatestDamp, dampThen);
            if (frozen && warmth >= 0) {
                frozen = false;
                passes++;
            } else if (warmth < 0 && dampThen >= FROST_DAMP) {
                frozen = true;
            }
        }
    }

    /** Water on its way in an hour between two places, either way. */
    private static final class Flow {
        final Place outer;
        final Place inner;
        Place from;
        Place to;
        int much;

        Flow(Place outer, Place inner) {
            this.outer = outer;
            this.inner = inner;
            this.from = outer;
            this.to = inner;
            this.much = 0;
        }

        void setInward(int flow) {
            if (flow >= 0) {
                from = outer;
                to = inner;
                much = flow;
            } else {
                from = inner;
                to = outer;
                much = -flow;
            }
        }

        void countLeaving() {
            from.leaving += much;
        }

        void limitLeaving() {
            much = portion(from.leaving, from.supply);
        }

        void countComing() {
            to.coming += much;
        }

        void limitComing() {
            much = portion(to.coming, to.room);
        }

        void move() {
            from.give(much);
            to.take(much);
        }

        private int portion(int all, int limit) {
            if (all <= limit || all <= 0) {
                return much;
            }
            return (int) ((long) much * limit / all);
        }
    }

    /** Cells in their places, and the air on both sides of them. */
    private static final class Wall {
        final Cell[] cells;
        final Air outerAir;
        final Air innerAir;
        private final Flow outerVapour;
        private final Flow innerVapour;
        private final Flow rain;
        private final Flow[] leaks;
        private final Flow[] betweens;
        private final Flow[] flows;

        /** At least one cell is made, so that there always is a last one. */
        Wall(int size, Material material) {
            int n = Math.max(1, size);
            outerAir = new Air();
            innerAir = new Air();
            cells = new Cell[n];
            leaks = new Flow[n];
            for (int k = 0; k < n; k++) {
                cells[k] = new Cell(material);
                leaks[k] = new Flow(cells[k], innerAir);
            }
            betweens = new Flow[n - 1];
            for (int k = 0; k < n - 1; k++) {
                betweens[k] = new Flow(cells[k], cells[k + 1]);
            }
            outerVapour = new Flow(outerAir, cells[0]);
            innerVapour = new Flow(cells[n - 1], innerAir);
            rain = new Flow(outerAir, cells[0]);
            flows = new Flow[3 + n + n - 1];
            flows[0] = outerVapour;
            flows[1] = innerVapour;
            flows[2] = rain;
            for (int k = 0; k < n; k++) {
                flows[3 + k] = leaks[k];
            }
            for (int k = 0; k < n - 1; k++) {
                flows[3 + n + k] = betweens[k];
            }
        }

        Cell lastCell() {
            return cells[cells.length - 1];
        }

        long allWater() {
            long sum = 0;
            for (Cell cell : cells) {
                sum += cell.held;
            }
            return sum;
        }

        void moveWater(Surroundings around, int hour) {
            int clock = Math.floorMod(hour, DAY);
            outerAir.warmth = around.outerWarmth[clock] + around.sunShine[clock];
            innerAir.warmth = around.innerWarmth[clock];
            warmCells(around);
            outerAir.beginHour(around, around.outerDamp[clock]);
            innerAir.beginHour(around, around.innerDamp[clock]);
            for (Cell cell : cells) {
                cell.beginHour(around);
            }
            setAirFlows(around.rainFall[clock]);
            setFlowsBetween();
            limitFlows();
            for (Flow flow : flows) {
                flow.move();
            }
        }

        void tellFrost() {
            for (Cell cell : cells) {
                cell.endHour();
            }
        }

        private void warmCells(Surroundings around) {
            long all = 2L * around.outerFilm;
            for (Cell cell : cells) {
                int resistance = cell.resistance();
                cell.way = all + resistance;
                all += 2L * resistance;
            }
            all += 2L * around.innerFilm;
            int face = outerAir.warmth;
            long rise = innerAir.warmth - face;
            for (Cell cell : cells) {
                cell.warmth = all <= 0 ? face : face + (int) Math.floorDiv(rise * cell.way, all);
            }
        }

        private void setAirFlows(int rainNow) {
            Cell first = cells[0];
            Cell last = lastCell();
            outerVapour.setInward((outerAir.pressure - first.pressure) * first.material.vapour / 1000);
            innerVapour.setInward((last.pressure - innerAir.pressure) * last.material.vapour / 1000);
            rain.setInward(rainNow * first.material.liquid / 100);
            for (int k = 0; k < leaks.length && k < cells.length; k++) {
                int excess = Math.max(0, innerAir.pressure - cells[k].pressure);
                leaks[k].setInward(-(excess * cells[k].leakRate / 1000));
            }
        }

        private void setFlowsBetween() {
            for (int k = 0; k < betweens.length && k + 1 < cells.length; k++) {
                Cell a = cells[k];
                Cell b = cells[k + 1];
                int vapour = Math.min(a.material.vapour, b.material.vapour);
                int liquid = Math.min(a.material.liquid, b.material.liquid);
                betweens[k].setInward((a.pressure - b.pressure) * vapour / 1000 + (a.damp - b.damp) * liquid / 1000);
            }
        }

        private void limitFlows() {
            for (Flow flow : flows) {
                flow.countLeaving();
            }
            for (Flow flow : flows) {
                flow.limitLeaving();
                flow.countComing();
            }
            for (Flow flow : flows) {
                flow.limitComing();
            }
        }
    }

    /** Tries the layers of a wall in every order, on a wall of its own that is used again for each. */
    private static final class Trials {
        private static final int ORDERS_MOST = 120;
        /** Far above what any wall can hold. */
        private static final long ENDLESS_WATER = 1000000000000L;

        final int[] driest;
        private final int[] row;
        private final Wall trial;

        Trials(Wall trial) {
            this.trial = trial;
            this.row = new int[ORDER_CELLS_MOST];
            this.driest = new int[ORDER_CELLS_MOST];
        }

        /** Orders come in their own order, so only less water may take the place of an earlier one. */
        void findDriest(Wall wall, Surroundings around, int hours) {
            int n = Math.min(ORDER_CELLS_MOST, wall.cells.length);
            for (int i = 0; i < n; i++) {
                row[i] = i;
            }
            long least = ENDLESS_WATER;
            boolean more = true;
            for (int tried = 0; more && tried < ORDERS_MOST; tried++) {
                long water = waterBehind(wall, around, hours);
                if (water < least) {
                    least = water;
                    keepRow(n);
                }
                more = stepRow(n);
            }
        }

        private void keepRow(int n) {
            for (int i = 0; i < n; i++) {
                driest[i] = row[i];
            }
        }

        private long waterBehind(Wall wall, Surroundings around, int hours) {
            for (int i = 0; i < trial.cells.length && i < row.length; i++) {
                int k = row[i];
                if (k >= 0 && k < wall.cells.length) {
                    trial.cells[i].layDry(wall.cells[k]);
                }
            }
            for (int hour = 0; hour < hours; hour++) {
                trial.moveWater(around, hour);
            }
            return trial.allWater();
        }

        /** The next row of the first n numbers, or false behind the last one. */
        private boolean stepRow(int n) {
            int i = n - 2;
            while (i >= 0 && row[i] > row[i + 1]) {
                i--;
            }
            if (i < 0) {
                return false;
            }
            int j = n - 1;
            while (j > i && row[j] < row[i]) {
                j--;
            }
            swap(i, j);
            for (int d = 1; i + d < n - d; d++) {
                swap(i + d, n - d);
            }
            return true;
        }

        private void swap(int a, int b) {
            int kept = row[a];
            row[a] = row[b];
            row[b] = kept;
        }
    }
}
