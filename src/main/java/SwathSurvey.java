import java.util.Arrays;
import java.util.NoSuchElementException;

/**
 * A survey of the sea floor: a ship runs lines over a chart and sounds swaths, gauges tell the
 * height of the water, soundings are reduced by it, and the ship is paid by days.
 */
public final class SwathSurvey {
    private static final int COLUMNS = 20;
    private static final int ROWS = 12;
    private static final int CELLS = 240;
    private static final int DAYS = 10;
    private static final int HOURS = 24;

    private static final int FIRST_FLOOR = 20;
    private static final int DEEPEST_FLOOR = 99;
    private static final int HIGHEST_WATER = 30;
    private static final int STEEPEST_SLOPE = 2;
    private static final int SLOPE_COLUMNS = 4;
    private static final int WORST_WEATHER = 9;
    private static final int CALM_WEATHER = 4;

    private static final int MOST_GAUGES = 3;
    private static final int LONGEST_GAP = 6;

    private static final int MOST_LINES = 16;
    private static final int CELLS_AN_HOUR = 5;
    private static final int DEPTH_A_SIDE = 10;
    private static final int WIDEST_REACH = 3;
    private static final int SIDES = 7;
    private static final int GREATEST_ERROR = 60;
    private static final int SPIKE_DIFFERENCE = 5;

    private static final int RUN_DAY_COST = 1000;
    private static final int FREE_HOURS = 10;
    private static final int LATE_HOUR_COST = 40;
    private static final int ROUGH_DAY_COST = 600;
    private static final int CALM_DAY_COST = 200;

    /** Far below every height, depth and difference that can be found. */
    private static final int NOTHING = -1000000;

    private final Sea sea;
    private final Gauges gauges;
    private final Line[] lines;
    private int lineCount;
    private final Chart chart;
    private final StringBuilder text;

    public SwathSurvey() {
        sea = new Sea();
        gauges = new Gauges();
        lines = new Line[MOST_LINES];
        lineCount = 0;
        chart = new Chart();
        text = new StringBuilder();
    }

    // The sea and its weather

    public int setFloor(int column, int row, int depth) throws IndexOutOfBoundsException, IllegalArgumentException {
        requireCell(column, row);
        if (depth < 1 || depth > DEEPEST_FLOOR) {
            throw new IllegalArgumentException("the depth is out of range");
        }
        return sea.putFloor(column, row, depth);
    }

    public int setWater(int day, int hour, int height) throws IndexOutOfBoundsException, IllegalArgumentException {
        requireHour(day, hour);
        if (height < 0 || height > HIGHEST_WATER) {
            throw new IllegalArgumentException("the height is out of range");
        }
        int before = sea.putHeight(day, hour, height);
        refresh();
        return before;
    }

    public int setSlope(int day, int slope) throws IndexOutOfBoundsException, IllegalArgumentException {
        requireDay(day);
        if (slope < -STEEPEST_SLOPE || slope > STEEPEST_SLOPE) {
            throw new IllegalArgumentException("the slope is out of range");
        }
        int before = sea.putSlope(day, slope);
        refresh();
        return before;
    }

    public int waterAt(int column, int day, int hour) throws IndexOutOfBoundsException {
        requireColumn(column);
        requireHour(day, hour);
        return sea.waterIn(column, day, hour);
    }

    public int setWeather(int day, int force) throws IndexOutOfBoundsException, IllegalArgumentException {
        requireDay(day);
        if (force < 0 || force > WORST_WEATHER) {
            throw new IllegalArgumentException("the weather is out of range");
        }
        return sea.putForce(day, force);
    }

    // The gauges

    public int addGauge(int column)
            throws IndexOutOfBoundsException, UnsupportedOperationException, IllegalStateException {
        requireColumn(column);
        if (gauges.standIn(column)) {
            throw new UnsupportedOperationException("a gauge stands there");
        }
        if (gauges.areFull()) {
            throw new IllegalStateException("there are all gauges");
        }
        int number = gauges.placeIn(column);
        refresh();
        return number;
    }

    public int fail(int gauge, int day, int hour, int end)
            throws NoSuchElementException, IndexOutOfBoundsException, IllegalArgumentException {
        Gauge failing = requireGauge(gauge);
        requireHour(day, hour);
        if (end <= hour || end > HOURS) {
            throw new IllegalArgumentException("the end is out of range");
        }
        failing.breakDown(day, hour, end);
        refresh();
        return HOURS - failing.failedHours(day);
    }

    public int mend(int gauge, int day) throws NoSuchElementException, IndexOutOfBoundsException {
        Gauge mended = requireGauge(gauge);
        requireDay(day);
        int failed = mended.failedHours(day);
        mended.repair(day);
        refresh();
        return failed;
    }

    public int told(int gauge, int day, int hour)
            throws NoSuchElementException, IndexOutOfBoundsException, UnsupportedOperationException {
        Gauge asked = requireGauge(gauge);
        requireHour(day, hour);
        int height = asked.tellsIn(sea, day, hour);
        if (height == NOTHING) {
            throw new UnsupportedOperationException("the gauge tells nothing");
        }
        return height;
    }

    public int tide(int column, int day, int hour) throws IndexOutOfBoundsException, UnsupportedOperationException {
        requireColumn(column);
        requireHour(day, hour);
        int height = gauges.tideIn(sea, column, day, hour);
        if (height == NOTHING) {
            throw new UnsupportedOperationException("the tide is not known");
        }
        return height;
    }

    // The lines

    public int run(char kind, int index, int from, int to, int day, int hour)
            throws IllegalArgumentException, IndexOutOfBoundsException, UnsupportedOperationException,
            IllegalStateException {
        if (kind != 'r' && kind != 'c') {
            throw new IllegalArgumentException("no such kind");
        }
        boolean alongRow = kind == 'r';
        requireWay(alongRow, index, from, to);
        requireHour(day, hour);
        requireCalm(day);
        int number = lineCount;
        if (number < 0 || number >= lines.length || !isFree(null, hoursBehind(from, to), day, hour)) {
            throw new IllegalStateException("the line has no place");
        }
        Line made = new Line(alongRow, index, from, to);
        lines[number] = made;
        lineCount = number + 1;
        made.soundAll(sea, day, hour);
        refresh();
        return number;
    }

    public int runAnew(int line, int day, int hour)
            throws NoSuchElementException, IndexOutOfBoundsException, UnsupportedOperationException,
            IllegalStateException {
        Line again = requireLine(line);
        requireHour(day, hour);
        requireCalm(day);
        if (!isFree(again, again.lastBehind(), day, hour)) {
            throw new IllegalStateException("the line has no place");
        }
        again.soundAll(sea, day, hour);
        refresh();
        return chart.countDepths();
    }

    public int disturb(int line, int cell, int side, int error)
            throws NoSuchElementException, IndexOutOfBoundsException, IllegalArgumentException {
        Line disturbed = requireSounded(line, cell, side);
        if (error < -GREATEST_ERROR || error > GREATEST_ERROR) {
            throw new IllegalArgumentException("the error is out of range");
        }
        int before = disturbed.putError(cell, side, error);
        refresh();
        return before;
    }

    public int soundings(int line) throws NoSuchElementException {
        return requireLine(line).countSounded();
    }

    public int sounding(int line, int cell, int side) throws NoSuchElementException, IndexOutOfBoundsException {
        return requireSounded(line, cell, side).soundingAt(cell, side);
    }

    public int reduced(int line, int cell, int side)
            throws NoSuchElementException, IndexOutOfBoundsException, UnsupportedOperationException {
        int found = requireSounded(line, cell, side).reducedAt(cell, side);
        if (found == NOTHING) {
            throw new UnsupportedOperationException("the tide is not known");
        }
        return found;
    }

    public boolean isSpike(int line, int cell, int side) throws NoSuchElementException, IndexOutOfBoundsException {
        return requireSounded(line, cell, side).standsOut(cell, side);
    }

    public int spikes(int line) throws NoSuchElementException {
        return requireLine(line).countSpikes();
    }

    public int lost(int line) throws NoSuchElementException {
        return requireLine(line).countLost();
    }

    // The chart

    public int depth(int column, int row) throws IndexOutOfBoundsException, UnsupportedOperationException {
        requireCell(column, row);
        return requireDepth(chart.depthIn(column, row));
    }

    public int depthAnew(int column, int row) throws IndexOutOfBoundsException, UnsupportedOperationException {
        requireCell(column, row);
        reduceLines();
        return requireDepth(leastDepth(column, row));
    }

    public int charted() {
        return chart.countDepths();
    }

    public int gap(int index) throws NoSuchElementException {
        int found = chart.emptyCell(index);
        if (found == NOTHING) {
            throw new NoSuchElementException("no such cell");
        }
        return found;
    }

    public int bestRow() throws IllegalStateException {
        if (chart.countDepths() == CELLS) {
            throw new IllegalStateException("all cells have a depth");
        }
        int best = 0;
        int most = 0;
        for (int row = 0; row < ROWS; row++) {
            int gained = gainOfRow(row);
            if (gained > most) {
                most = gained;
                best = row;
            }
        }
        return best;
    }

    // The survey as a whole

    public int lines() {
        return lineCount;
    }

    public int dayOf(int line) throws NoSuchElementException {
        return requireLine(line).ranOn();
    }

    public int toRun() {
        int count = 0;
        for (int number = 0; number < lineCount; number++) {
            Line line = lineOrNull(number);
            if (line != null && line.countLost() > 0) {
                count++;
            }
        }
        return count;
    }

    public int cross(int line, int other)
            throws NoSuchElementException, IllegalArgumentException, UnsupportedOperationException {
        Line first = requireLine(line);
        Line second = requireLine(other);
        if (!first.meets(second)) {
            throw new IllegalArgumentException("the lines do not cross");
        }
        int difference = first.misfitTo(second);
        if (difference == NOTHING) {
            throw new UnsupportedOperationException("a sounding is not reduced");
        }
        return difference;
    }

    public int worstCross() throws UnsupportedOperationException {
        int worst = NOTHING;
        for (int number = 0; number < lineCount; number++) {
            for (int other = number + 1; other < lineCount; other++) {
                worst = Math.max(worst, misfit(lineOrNull(number), lineOrNull(other)));
            }
        }
        if (worst == NOTHING) {
            throw new UnsupportedOperationException("no such pair");
        }
        return worst;
    }

    public int hours(int day) throws IndexOutOfBoundsException {
        requireDay(day);
        return hoursOn(day);
    }

    public long hire() {
        int last = lastDay();
        long sum = 0;
        for (int day = 0; day < DAYS && day <= last; day++) {
            sum += costOf(day);
        }
        return sum;
    }

    public float chartedShare() {
        return (float) chart.countDepths() / (float) CELLS;
    }

    public double meanDepth() throws ArithmeticException {
        int count = chart.countDepths();
        if (count == 0) {
            throw new ArithmeticException("no cell has a depth");
        }
        return (double) chart.sumOfDepths() / (double) count;
    }

    public int writeLine(int line) throws NoSuchElementException {
        Line written = requireLine(line);
        text.setLength(0);
        written.describeIn(text);
        return text.length();
    }

    public char textAt(int index) throws IndexOutOfBoundsException {
        if (index < 0 || index >= text.length()) {
            throw new IndexOutOfBoundsException("no such character");
        }
        return text.charAt(index);
    }

    public boolean isSure() {
        reduceLines();
        for (int row = 0; row < ROWS; row++) {
            for (int column = 0; column < COLUMNS; column++) {
                // Only soundings with a known tide are found anew, so that equality says both.
                if (chart.depthIn(column, row) != leastDepth(column, row)) {
                    return false;
                }
            }
        }
        return true;
    }

    // What the calls require

    private static void requireCell(int column, int row) {
        if (cellNumber(column, row) < 0) {
            throw new IndexOutOfBoundsException("no such cell");
        }
    }

    private static void requireColumn(int column) {
        if (column < 0 || column >= COLUMNS) {
            throw new IndexOutOfBoundsException("no such column");
        }
    }

    private static void requireDay(int day) {
        if (day < 0 || day >= DAYS) {
            throw new IndexOutOfBoundsException("no such day");
        }
    }

    private static void requireHour(int day, int hour) {
        if (hourNumber(day, hour) < 0) {
            throw new IndexOutOfBoundsException("no such day or hour");
        }
    }

    private static void requireWay(boolean alongRow, int index, int from, int to) {
        boolean inChart = alongRow
            ? cellNumber(from, index) >= 0 && cellNumber(to, index) >= 0
            : cellNumber(index, from) >= 0 && cellNumber(index, to) >= 0;
        if (!inChart) {
            throw new IndexOutOfBoundsException("no such row, column or cell");
        }
    }

    private void requireCalm(int day) {
        if (sea.isRough(day)) {
            throw new UnsupportedOperationException("the weather is too bad");
        }
    }

    private static int requireDepth(int depth) {
        if (depth == NOTHING) {
            throw new UnsupportedOperationException("the cell has no depth");
        }
        return depth;
    }

    private Gauge requireGauge(int number) {
        Gauge gauge = gauges.gaugeOrNull(number);
        if (gauge == null) {
            throw new NoSuchElementException("no such gauge");
        }
        return gauge;
    }

    private Line requireLine(int number) {
        Line line = lineOrNull(number);
        if (line == null) {
            throw new NoSuchElementException("no such line");
        }
        return line;
    }

    private Line requireSounded(int number, int cell, int side) {
        Line line = requireLine(number);
        if (!line.hasSounded(cell, side)) {
            throw new IndexOutOfBoundsException("no such sounding");
        }
        return line;
    }

    // What the calls ask

    private static int cellNumber(int column, int row) {
        boolean inChart = column >= 0 && column < COLUMNS && row >= 0 && row < ROWS;
        return inChart ? row * COLUMNS + column : -1;
    }

    private static int hourNumber(int day, int hour) {
        boolean inDays = day >= 0 && day < DAYS && hour >= 0 && hour < HOURS;
        return inDays ? day * HOURS + hour : -1;
    }

    /** The number at a part of the way from one number to another one, rounded down. */
    private static int between(int first, int last, int part, int whole) {
        return whole > 0 ? first + Math.floorDiv((last - first) * part, whole) : first;
    }

    private Line lineOrNull(int number) {
        return number >= 0 && number < lineCount && number < lines.length ? lines[number] : null;
    }

    /** What is reduced and what is kept follow every change of the water, the gauges and the lines. */
    private void refresh() {
        chart.forget();
        for (int number = 0; number < lineCount; number++) {
            Line line = lineOrNull(number);
            if (line != null) {
                line.reduceBy(gauges, sea);
                line.drawOn(chart);
            }
        }
    }

    private void reduceLines() {
        for (int number = 0; number < lineCount; number++) {
            Line line = lineOrNull(number);
            if (line != null) {
                line.reduceBy(gauges, sea);
            }
        }
    }

    private int leastDepth(int column, int row) {
        int least = NOTHING;
        for (int number = 0; number < lineCount; number++) {
            Line line = lineOrNull(number);
            int found = line == null ? NOTHING : line.depthOver(column, row);
            if (found != NOTHING && (least == NOTHING || found < least)) {
                least = found;
            }
        }
        return least;
    }

    private int gainOfRow(int row) {
        int gained = 0;
        for (int column = 0; column < COLUMNS; column++) {
            int reach = sea.reachFrom(column, row);
            for (int side = -reach; side <= reach; side++) {
                if (chart.lacks(column, row + side)) {
                    gained++;
                }
            }
        }
        return gained;
    }

    /** How many hours the last cell of a way is sounded behind the first one. */
    private static int hoursBehind(int from, int to) {
        return Math.abs(to - from) / CELLS_AN_HOUR;
    }

    /** Whether the hours from this one on are of this day and of no line, but for the one that asks, if there is one. */
    private boolean isFree(Line asking, int behind, int day, int hour) {
        int last = hour + behind;
        if (last >= HOURS) {
            return false;
        }
        for (int number = 0; number < lineCount; number++) {
            Line line = lineOrNull(number);
            if (line != null && line != asking && line.isSoundedIn(day, hour, last)) {
                return false;
            }
        }
        return true;
    }

    /** The difference without its sign, or NOTHING. */
    private static int misfit(Line first, Line second) {
        if (first == null || second == null || !first.meets(second)) {
            return NOTHING;
        }
        int difference = first.misfitTo(second);
        return difference == NOTHING ? NOTHING : Math.abs(difference);
    }

    private int hoursOn(int day) {
        int sum = 0;
        for (int number = 0; number < lineCount; number++) {
            Line line = lineOrNull(number);
            if (line != null && line.ranOn() == day) {
                sum += line.lastBehind() + 1;
            }
        }
        return sum;
    }

    /** The last day on which a line was run, or -1. */
    private int lastDay() {
        int last = -1;
        for (int number = 0; number < lineCount; number++) {
            Line line = lineOrNull(number);
            if (line != null) {
                last = Math.max(last, line.ranOn());
            }
        }
        return last;
    }

    private int costOf(int day) {
        int sounded = hoursOn(day);
        if (sounded > 0) {
            return RUN_DAY_COST + LATE_HOUR_COST * Math.max(0, sounded - FREE_HOURS);
        }
        return sea.isRough(day) ? ROUGH_DAY_COST : CALM_DAY_COST;
    }

    /** Numbers in a row; outside of the row each is the one it was filled with, so that no index can throw. */
    private static final class Row {
        private final int[] numbers;
        private final int blank;

        Row(int length, int blank) {
            this.numbers = new int[length > 0 ? length : 0];
            this.blank = blank;
            Arrays.fill(this.numbers, blank);
        }

        int read(int index) {
            return index >= 0 && index < numbers.length ? numbers[index] : blank;
        }

        /** Returns the number before. */
        int write(int index, int number) {
            if (index < 0 || index >= numbers.length) {
                return blank;
            }
            int before = numbers[index];
            numbers[index] = number;
            return before;
        }

        void clear() {
            Arrays.fill(numbers, blank);
        }
    }

    /** The floor, the water and the weather as they are now. */
    private static final class Sea {
        private final Row floors = new Row(CELLS, FIRST_FLOOR);
        private final Row heights = new Row(DAYS * HOURS, 0);
        private final Row slopes = new Row(DAYS, 0);
        private final Row forces = new Row(DAYS, 0);

        int putFloor(int column, int row, int floor) {
            return floors.write(cellNumber(column, row), floor);
        }

        int putHeight(int day, int hour, int height) {
            return heights.write(hourNumber(day, hour), height);
        }

        int putSlope(int day, int slope) {
            return slopes.write(day, slope);
        }

        int putForce(int day, int force) {
            return forces.write(day, force);
        }

        int floorIn(int column, int row) {
            return floors.read(cellNumber(column, row));
        }

        int waterIn(int column, int day, int hour) {
            return heights.read(hourNumber(day, hour)) + Math.floorDiv(slopes.read(day) * column, SLOPE_COLUMNS);
        }

        boolean isRough(int day) {
            return forces.read(day) > CALM_WEATHER;
        }

        /** How many cells a ship in this cell sounds at each side. */
        int reachFrom(int column, int row) {
            return Math.min(floorIn(column, row) / DEPTH_A_SIDE, WIDEST_REACH);
        }
    }

    private static final class Gauge {
        private final int column;
        private final Row failures = new Row(DAYS * HOURS, 0);

        Gauge(int column) {
            this.column = column;
        }

        int place() {
            return column;
        }

        void breakDown(int day, int hour, int end) {
            for (int failing = hour; failing < end && failing < HOURS; failing++) {
                failures.write(hourNumber(day, failing), 1);
            }
        }

        void repair(int day) {
            for (int hour = 0; hour < HOURS; hour++) {
                failures.write(hourNumber(day, hour), 0);
            }
        }

        int failedHours(int day) {
            int sum = 0;
            for (int hour = 0; hour < HOURS; hour++) {
                sum += failures.read(hourNumber(day, hour));
            }
            return sum;
        }

        /** The height that it tells, or NOTHING. */
        int tellsIn(Sea sea, int day, int hour) {
            if (failures.read(hourNumber(day, hour)) == 0) {
                return sea.waterIn(column, day, hour);
            }
            int earlier = workedBefore(day, hour);
            int later = workedBehind(day, hour);
            if (earlier < 0 || later < 0 || later - earlier > LONGEST_GAP) {
                return NOTHING;
            }
            int first = sea.waterIn(column, day, earlier);
            int last = sea.waterIn(column, day, later);
            return between(first, last, hour - earlier, later - earlier);
        }

        /** The last hour before this one in which it did not fail, or -1. */
        private int workedBefore(int day, int hour) {
            for (int earlier = hour - 1; earlier >= 0; earlier--) {
                if (failures.read(hourNumber(day, earlier)) == 0) {
                    return earlier;
                }
            }
            return -1;
        }

        /** The first hour behind this one in which it did not fail, or -1. */
        private int workedBehind(int day, int hour) {
            for (int later = hour + 1; later < HOURS; later++) {
                if (failures.read(hourNumber(day, later)) == 0) {
                    return later;
                }
            }
            return -1;
        }
    }

    private static final class Gauges {
        private final Gauge[] placed = new Gauge[MOST_GAUGES];
        private int count = 0;

        boolean areFull() {
            return count >= placed.length;
        }

        boolean standIn(int column) {
            for (int number = 0; number < count; number++) {
                Gauge gauge = gaugeOrNull(number);
                if (gauge != null && gauge.place() == column) {
                    return true;
                }
            }
            return false;
        }

        /** Returns the number of the new gauge. */
        int placeIn(int column) {
            int number = count;
            if (number >= 0 && number < placed.length) {
                placed[number] = new Gauge(column);
                count = number + 1;
            }
            return number;
        }

        Gauge gaugeOrNull(int number) {
            return number >= 0 && number < count && number < placed.length ? placed[number] : null;
        }

        /** The tide in a column, or NOTHING. */
        int tideIn(Sea sea, int column, int day, int hour) {
            int lower = -1;
            int higher = COLUMNS;
            int lowerTold = NOTHING;
            int higherTold = NOTHING;
            for (int number = 0; number < count; number++) {
                Gauge gauge = gaugeOrNull(number);
                int height = gauge == null ? NOTHING : gauge.tellsIn(sea, day, hour);
                if (gauge == null || height == NOTHING) {
                    continue;
                }
                int place = gauge.place();
                if (place == column) {
                    return height;
                }
                if (place < column && place > lower) {
                    lower = place;
                    lowerTold = height;
                }
                if (place > column && place < higher) {
                    higher = place;
                    higherTold = height;
                }
            }
            if (lowerTold == NOTHING) {
                return higherTold;
            }
            return higherTold == NOTHING ? lowerTold : between(lowerTold, higherTold, column - lower, higher - lower);
        }
    }

    /** A line with its soundings, each in a slot of its cell on the way and its side across. */
    private static final class Line {
        private final boolean alongRow;
        private final int index;
        private final int from;
        private final int to;
        private final int cells;
        private int day = 0;
        private int hour = 0;
        private final Row sounded = new Row(COLUMNS * SIDES, NOTHING);
        private final Row errors = new Row(COLUMNS * SIDES, 0);
        private final Row reductions = new Row(COLUMNS * SIDES, NOTHING);

        Line(boolean alongRow, int index, int from, int to) {
            this.alongRow = alongRow;
            this.index = index;
            this.from = from;
            this.to = to;
            this.cells = Math.abs(to - from) + 1;
        }

        int ranOn() {
            return day;
        }

        int lastBehind() {
            return hoursBehind(from, to);
        }

        boolean isSoundedIn(int asked, int first, int last) {
            return day == asked && hour <= last && hour + lastBehind() >= first;
        }

        /** Sounds by the floor and the water as they are now; a later change of them alters no sounding. */
        void soundAll(Sea sea, int newDay, int newHour) {
            day = newDay;
            hour = newHour;
            sounded.clear();
            errors.clear();
            for (int cell = 0; cell < cells; cell++) {
                int water = sea.waterIn(columnOf(cell, 0), day, hourOf(cell));
                int reach = sea.reachFrom(columnOf(cell, 0), rowOf(cell, 0));
                for (int side = -reach; side <= reach; side++) {
                    int column = columnOf(cell, side);
                    int row = rowOf(cell, side);
                    if (cellNumber(column, row) >= 0) {
                        sounded.write(slotOf(cell, side), sea.floorIn(column, row) + water);
                    }
                }
            }
        }

        int putError(int cell, int side, int error) {
            return errors.write(slotOf(cell, side), error);
        }

        void reduceBy(Gauges gauges, Sea sea) {
            for (int cell = 0; cell < cells; cell++) {
                int tide = gauges.tideIn(sea, columnOf(cell, 0), day, hourOf(cell));
                for (int side = -WIDEST_REACH; side <= WIDEST_REACH; side++) {
                    boolean known = tide != NOTHING && hasSounded(cell, side);
                    reductions.write(slotOf(cell, side), known ? soundingAt(cell, side) - tide : NOTHING);
                }
            }
        }

        void drawOn(Chart chart) {
            for (int cell = 0; cell < cells; cell++) {
                for (int side = -WIDEST_REACH; side <= WIDEST_REACH; side++) {
                    if (isGood(cell, side)) {
                        chart.lower(columnOf(cell, side), rowOf(cell, side), reducedAt(cell, side));
                    }
                }
            }
        }

        boolean hasSounded(int cell, int side) {
            return sounded.read(slotOf(cell, side)) != NOTHING;
        }

        int soundingAt(int cell, int side) {
            int slot = slotOf(cell, side);
            return sounded.read(slot) + errors.read(slot);
        }

        /** The reduced depth, or NOTHING. */
        int reducedAt(int cell, int side) {
            return reductions.read(slotOf(cell, side));
        }

        /** Whether it is a spike. */
        boolean standsOut(int cell, int side) {
            int own = reducedAt(cell, side);
            int before = reducedAt(cell - 1, side);
            int behind = reducedAt(cell + 1, side);
            if (own == NOTHING || before == NOTHING && behind == NOTHING) {
                return false;
            }
            return isFar(own, before) && isFar(own, behind);
        }

        int countSounded() {
            int count = 0;
            for (int cell = 0; cell < cells; cell++) {
                for (int side = -WIDEST_REACH; side <= WIDEST_REACH; side++) {
                    count += hasSounded(cell, side) ? 1 : 0;
                }
            }
            return count;
        }

        int countSpikes() {
            int count = 0;
            for (int cell = 0; cell < cells; cell++) {
                for (int side = -WIDEST_REACH; side <= WIDEST_REACH; side++) {
                    count += standsOut(cell, side) ? 1 : 0;
                }
            }
            return count;
        }

        int countLost() {
            int count = 0;
            for (int cell = 0; cell < cells; cell++) {
                for (int side = -WIDEST_REACH; side <= WIDEST_REACH; side++) {
                    count += hasSounded(cell, side) && reducedAt(cell, side) == NOTHING ? 1 : 0;
                }
            }
            return count;
        }

        /** The depth that this line gives to a cell of the chart, or NOTHING. */
        int depthOver(int column, int row) {
            int cell = cellAt(alongRow ? column : row);
            int side = alongRow ? row - index : column - index;
            return isGood(cell, side) ? reducedAt(cell, side) : NOTHING;
        }

        /** Whether the other line is of the other kind and both ways have a cell in common. */
        boolean meets(Line other) {
            return alongRow != other.alongRow && cellAt(other.index) >= 0 && other.cellAt(index) >= 0;
        }

        /** What its own cell where it meets the other line differs from that of the other one, or NOTHING. */
        int misfitTo(Line other) {
            int own = reducedAt(cellAt(other.index), 0);
            int others = other.reducedAt(other.cellAt(index), 0);
            return own == NOTHING || others == NOTHING ? NOTHING : own - others;
        }

        void describeIn(StringBuilder text) {
            text.append(alongRow ? 'r' : 'c');
            text.append(index);
            text.append(':');
            text.append(from);
            text.append('-');
            text.append(to);
            text.append('@');
            text.append(day);
            text.append('/');
            text.append(hour);
            text.append(' ');
            int missing = countLost();
            text.append(missing == 0 ? "good" : missing == countSounded() ? "bad" : "part");
        }

        private boolean isGood(int cell, int side) {
            return reducedAt(cell, side) != NOTHING && !standsOut(cell, side);
        }

        /** A neighbour that is not reduced does not speak against a spike. */
        private static boolean isFar(int own, int neighbour) {
            return neighbour == NOTHING || Math.abs(own - neighbour) > SPIKE_DIFFERENCE;
        }

        /** The number of the cell on the way at this column or row, or -1. */
        private int cellAt(int place) {
            boolean onWay = place >= Math.min(from, to) && place <= Math.max(from, to);
            return onWay ? Math.abs(place - from) : -1;
        }

        private int placeOf(int cell) {
            return from <= to ? from + cell : from - cell;
        }

        private int columnOf(int cell, int side) {
            return alongRow ? placeOf(cell) : index + side;
        }

        private int rowOf(int cell, int side) {
            return alongRow ? index + side : placeOf(cell);
        }

        private int hourOf(int cell) {
            return hour + cell / CELLS_AN_HOUR;
        }

        private static int slotOf(int cell, int side) {
            boolean inRow = cell >= 0 && cell < COLUMNS && side >= -WIDEST_REACH && side <= WIDEST_REACH;
            return inRow ? cell * SIDES + side + WIDEST_REACH : -1;
        }
    }

    /** The depths of the chart as they are kept. */
    private static final class Chart {
        private final Row depths = new Row(CELLS, NOTHING);

        void forget() {
            depths.clear();
        }

        void lower(int column, int row, int depth) {
            int number = cellNumber(column, row);
            int before = depths.read(number);
            if (before == NOTHING || depth < before) {
                depths.write(number, depth);
            }
        }

        /** The depth, or NOTHING. */
        int depthIn(int column, int row) {
            return depths.read(cellNumber(column, row));
        }

        /** Whether there is such a cell, and it has no depth. */
        boolean lacks(int column, int row) {
            return cellNumber(column, row) >= 0 && depthIn(column, row) == NOTHING;
        }

        int countDepths() {
            int count = 0;
            for (int number = 0; number < CELLS; number++) {
                count += depths.read(number) != NOTHING ? 1 : 0;
            }
            return count;
        }

        int sumOfDepths() {
            int sum = 0;
            for (int number = 0; number < CELLS; number++) {
                int depth = depths.read(number);
                sum += depth != NOTHING ? depth : 0;
            }
            return sum;
        }

        /** 100 times the row plus the column of a cell without a depth, or NOTHING. */
        int emptyCell(int index) {
            int passed = 0;
            for (int number = 0; number < CELLS; number++) {
                if (depths.read(number) == NOTHING) {
                    if (passed == index) {
                        return 100 * (number / COLUMNS) + number % COLUMNS;
                    }
                    passed++;
                }
            }
            return NOTHING;
        }
    }
}
