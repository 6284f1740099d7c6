import java.util.ArrayList;
import java.util.List;
import java.util.NoSuchElementException;
import java.util.TreeMap;

/**
 * The document once more, in its plainest form: nothing is kept but what was set and sounded,
 * and every answer is found from it anew. ModelTest compares the class with it.
 */
final class Model {
    private static final class Sounding {
        int cell;
        int side;
        int column;
        int row;
        int measured;
        int error;
    }

    private static final class Way {
        char kind;
        int index;
        int from;
        int to;
        int day;
        int hour;
        List<Sounding> soundings = new ArrayList<>();

        int[] shipAt(int cell) {
            int place = from < to ? from + cell : from - cell;
            return kind == 'r' ? new int[] {place, index} : new int[] {index, place};
        }

        int length() {
            return from < to ? to - from + 1 : from - to + 1;
        }

        List<Integer> hoursOfCells(int start) {
            List<Integer> all = new ArrayList<>();
            for (int cell = 0; cell < length(); cell++) {
                int hour = start + cell / 5;
                if (!all.contains(hour)) {
                    all.add(hour);
                }
            }
            return all;
        }
    }

    private final int[][] floor = new int[20][12];
    private final int[][] height = new int[10][24];
    private final int[] slope = new int[10];
    private final int[] weather = new int[10];
    private final List<Integer> gauges = new ArrayList<>();
    private final boolean[][][] failed = new boolean[3][10][24];
    private final List<Way> ways = new ArrayList<>();
    private String text = "";

    Model() {
        for (int[] column : floor) {
            java.util.Arrays.fill(column, 20);
        }
    }

    private static void index(boolean holds) {
        if (!holds) {
            throw new IndexOutOfBoundsException();
        }
    }

    private static void argument(boolean holds) {
        if (!holds) {
            throw new IllegalArgumentException();
        }
    }

    private static void state(boolean holds) {
        if (!holds) {
            throw new IllegalStateException();
        }
    }

    private static void exists(boolean holds) {
        if (!holds) {
            throw new NoSuchElementException();
        }
    }

    private static int known(Integer found) {
        if (found == null) {
            throw new UnsupportedOperationException();
        }
        return found;
    }

    private static boolean in(int number, int end) {
        return 0 <= number && number < end;
    }

    private static int floor(double exact) {
        return (int) Math.floor(exact);
    }

    public int setFloor(int column, int row, int depth) {
        index(in(column, 20) && in(row, 12));
        argument(1 <= depth && depth <= 99);
        int before = floor[column][row];
        floor[column][row] = depth;
        return before;
    }

    public int setWater(int day, int hour, int high) {
        index(in(day, 10) && in(hour, 24));
        argument(0 <= high && high <= 30);
        int before = height[day][hour];
        height[day][hour] = high;
        return before;
    }

    public int setSlope(int day, int steep) {
        index(in(day, 10));
        argument(-2 <= steep && steep <= 2);
        int before = slope[day];
        slope[day] = steep;
        return before;
    }

    public int waterAt(int column, int day, int hour) {
        index(in(column, 20) && in(day, 10) && in(hour, 24));
        return height[day][hour] + floor(slope[day] * column / 4.0);
    }

    public int setWeather(int day, int force) {
        index(in(day, 10));
        argument(0 <= force && force <= 9);
        int before = weather[day];
        weather[day] = force;
        return before;
    }

    public int addGauge(int column) {
        index(in(column, 20));
        if (gauges.contains(column)) {
            throw new UnsupportedOperationException();
        }
        state(gauges.size() < 3);
        gauges.add(column);
        return gauges.size() - 1;
    }

    public int fail(int gauge, int day, int hour, int end) {
        exists(in(gauge, gauges.size()));
        index(in(day, 10) && in(hour, 24));
        argument(hour < end && end <= 24);
        for (int h = hour; h < end; h++) {
            failed[gauge][day][h] = true;
        }
        return 24 - failures(gauge, day);
    }

    private int failures(int gauge, int day) {
        int sum = 0;
        for (boolean one : failed[gauge][day]) {
            if (one) {
                sum++;
            }
        }
        return sum;
    }

    public int mend(int gauge, int day) {
        exists(in(gauge, gauges.size()));
        index(in(day, 10));
        int sum = failures(gauge, day);
        failed[gauge][day] = new boolean[24];
        return sum;
    }

    public int told(int gauge, int day, int hour) {
        exists(in(gauge, gauges.size()));
        index(in(day, 10) && in(hour, 24));
        return known(toldOrNull(gauge, day, hour));
    }

    private Integer toldOrNull(int gauge, int day, int hour) {
        TreeMap<Integer, Integer> good = new TreeMap<>();
        for (int h = 0; h < 24; h++) {
            if (!failed[gauge][day][h]) {
                good.put(h, waterAt(gauges.get(gauge), day, h));
            }
        }
        if (good.containsKey(hour)) {
            return good.get(hour);
        }
        Integer earlier = good.lowerKey(hour);
        Integer later = good.higherKey(hour);
        if (earlier == null || later == null || later - earlier > 6) {
            return null;
        }
        return interpolate(good, earlier, later, hour);
    }

    private static int interpolate(TreeMap<Integer, Integer> heights, int low, int high, int at) {
        double difference = heights.get(high) - heights.get(low);
        return heights.get(low) + floor(difference * (at - low) / (high - low));
    }

    public int tide(int column, int day, int hour) {
        index(in(column, 20) && in(day, 10) && in(hour, 24));
        return known(tideOrNull(column, day, hour));
    }

    private Integer tideOrNull(int column, int day, int hour) {
        TreeMap<Integer, Integer> heights = new TreeMap<>();
        for (int gauge = 0; gauge < gauges.size(); gauge++) {
            Integer told = toldOrNull(gauge, day, hour);
            if (told != null) {
                heights.put(gauges.get(gauge), told);
            }
        }
        Integer low = heights.floorKey(column);
        Integer high = heights.ceilingKey(column);
        if (low == null && high == null) {
            return null;
        }
        if (low == null || high == null) {
            return heights.get(low == null ? high : low);
        }
        return low.equals(high) ? heights.get(low) : Integer.valueOf(interpolate(heights, low, high, column));
    }

    public int run(char kind, int index, int from, int to, int day, int hour) {
        argument(kind == 'r' || kind == 'c');
        int across = kind == 'r' ? 12 : 20;
        int along = kind == 'r' ? 20 : 12;
        index(in(index, across) && in(from, along) && in(to, along) && in(day, 10) && in(hour, 24));
        if (weather[day] > 4) {
            throw new UnsupportedOperationException();
        }
        Way way = new Way();
        way.kind = kind;
        way.index = index;
        way.from = from;
        way.to = to;
        state(ways.size() < 16);
        requirePlace(way, day, hour);
        sound(way, day, hour);
        ways.add(way);
        return ways.size() - 1;
    }

    private void requirePlace(Way way, int day, int hour) {
        for (int h : way.hoursOfCells(hour)) {
            state(h <= 23);
            for (Way other : ways) {
                state(other == way || other.day != day || !other.hoursOfCells(other.hour).contains(h));
            }
        }
    }

    private void sound(Way way, int day, int hour) {
        way.day = day;
        way.hour = hour;
        way.soundings.clear();
        for (int cell = 0; cell < way.length(); cell++) {
            int[] ship = way.shipAt(cell);
            int reach = Math.min(3, floor[ship[0]][ship[1]] / 10);
            for (int side = -reach; side <= reach; side++) {
                Sounding one = new Sounding();
                one.cell = cell;
                one.side = side;
                one.column = ship[0] + (way.kind == 'c' ? side : 0);
                one.row = ship[1] + (way.kind == 'r' ? side : 0);
                if (in(one.column, 20) && in(one.row, 12)) {
                    one.measured = floor[one.column][one.row] + waterAt(ship[0], day, hour + cell / 5);
                    way.soundings.add(one);
                }
            }
        }
    }

    public int runAnew(int line, int day, int hour) {
        exists(in(line, ways.size()));
        index(in(day, 10) && in(hour, 24));
        if (weather[day] > 4) {
            throw new UnsupportedOperationException();
        }
        requirePlace(ways.get(line), day, hour);
        sound(ways.get(line), day, hour);
        return charted();
    }

    private static Sounding find(Way way, int cell, int side) {
        for (Sounding one : way.soundings) {
            if (one.cell == cell && one.side == side) {
                return one;
            }
        }
        return null;
    }

    private Sounding require(int line, int cell, int side) {
        exists(in(line, ways.size()));
        Sounding found = find(ways.get(line), cell, side);
        index(found != null);
        return found;
    }

    public int disturb(int line, int cell, int side, int error) {
        Sounding one = require(line, cell, side);
        argument(-60 <= error && error <= 60);
        int before = one.error;
        one.error = error;
        return before;
    }

    public int soundings(int line) {
        exists(in(line, ways.size()));
        return ways.get(line).soundings.size();
    }

    public int sounding(int line, int cell, int side) {
        Sounding one = require(line, cell, side);
        return one.measured + one.error;
    }

    public int reduced(int line, int cell, int side) {
        return known(reducedOrNull(ways.isEmpty() ? null : wayOrNull(line), require(line, cell, side)));
    }

    private Way wayOrNull(int line) {
        return in(line, ways.size()) ? ways.get(line) : null;
    }

    private Integer reducedOrNull(Way way, Sounding one) {
        if (one == null) {
            return null;
        }
        Integer tide = tideOrNull(way.shipAt(one.cell)[0], way.day, way.hour + one.cell / 5);
        return tide == null ? null : Integer.valueOf(one.measured + one.error - tide);
    }

    public boolean isSpike(int line, int cell, int side) {
        Sounding one = require(line, cell, side);
        return spike(ways.get(line), one);
    }

    private boolean spike(Way way, Sounding one) {
        Integer own = reducedOrNull(way, one);
        int neighbours = 0;
        int far = 0;
        for (int step = -1; step <= 1 && own != null; step += 2) {
            Integer next = reducedOrNull(way, find(way, one.cell + step, one.side));
            if (next != null) {
                neighbours++;
                far += next - own > 5 || own - next > 5 ? 1 : 0;
            }
        }
        return neighbours > 0 && far == neighbours;
    }

    public int spikes(int line) {
        exists(in(line, ways.size()));
        int sum = 0;
        for (Sounding one : ways.get(line).soundings) {
            sum += spike(ways.get(line), one) ? 1 : 0;
        }
        return sum;
    }

    public int lost(int line) {
        exists(in(line, ways.size()));
        int sum = 0;
        for (Sounding one : ways.get(line).soundings) {
            sum += reducedOrNull(ways.get(line), one) == null ? 1 : 0;
        }
        return sum;
    }

    private Integer[][] chart() {
        Integer[][] chart = new Integer[12][20];
        for (Way way : ways) {
            for (Sounding one : way.soundings) {
                Integer depth = reducedOrNull(way, one);
                Integer before = chart[one.row][one.column];
                if (depth != null && !spike(way, one) && (before == null || depth < before)) {
                    chart[one.row][one.column] = depth;
                }
            }
        }
        return chart;
    }

    public int depth(int column, int row) {
        index(in(column, 20) && in(row, 12));
        return known(chart()[row][column]);
    }

    public int depthAnew(int column, int row) {
        return depth(column, row);
    }

    private List<Integer> gaps() {
        Integer[][] chart = chart();
        List<Integer> gaps = new ArrayList<>();
        for (int row = 0; row < 12; row++) {
            for (int column = 0; column < 20; column++) {
                if (chart[row][column] == null) {
                    gaps.add(100 * row + column);
                }
            }
        }
        return gaps;
    }

    public int charted() {
        return 240 - gaps().size();
    }

    public int gap(int index) {
        List<Integer> gaps = gaps();
        exists(in(index, gaps.size()));
        return gaps.get(index);
    }

    public int bestRow() {
        List<Integer> gaps = gaps();
        state(!gaps.isEmpty());
        int best = 0;
        int[] gain = new int[12];
        for (int row = 0; row < 12; row++) {
            for (int gap : gaps) {
                int reach = Math.min(3, floor[gap % 100][row] / 10);
                gain[row] += Math.abs(gap / 100 - row) <= reach ? 1 : 0;
            }
            best = gain[row] > gain[best] ? row : best;
        }
        return best;
    }

    public int lines() {
        return ways.size();
    }

    public int dayOf(int line) {
        exists(in(line, ways.size()));
        return ways.get(line).day;
    }

    public int toRun() {
        int sum = 0;
        for (int line = 0; line < ways.size(); line++) {
            sum += lost(line) > 0 ? 1 : 0;
        }
        return sum;
    }

    public int cross(int line, int other) {
        exists(in(line, ways.size()) && in(other, ways.size()));
        Way one = ways.get(line);
        Way two = ways.get(other);
        argument(one.kind != two.kind);
        Sounding first = ownAt(one, two.kind == 'c' ? two.index : one.index, two.kind == 'r' ? two.index : one.index);
        Sounding second = ownAt(two, two.kind == 'c' ? two.index : one.index, two.kind == 'r' ? two.index : one.index);
        argument(first != null && second != null);
        return known(reducedOrNull(one, first)) - known(reducedOrNull(two, second));
    }

    private static Sounding ownAt(Way way, int column, int row) {
        for (Sounding one : way.soundings) {
            if (one.side == 0 && one.column == column && one.row == row) {
                return one;
            }
        }
        return null;
    }

    public int worstCross() {
        Integer worst = null;
        for (int line = 0; line < ways.size(); line++) {
            for (int other = 0; other < ways.size(); other++) {
                try {
                    int difference = Math.abs(cross(line, other));
                    worst = worst == null ? difference : Math.max(worst, difference);
                } catch (IllegalArgumentException | UnsupportedOperationException none) {
                    continue;
                }
            }
        }
        return known(worst);
    }

    public int hours(int day) {
        index(in(day, 10));
        int sum = 0;
        for (Way way : ways) {
            sum += way.day == day ? way.hoursOfCells(way.hour).size() : 0;
        }
        return sum;
    }

    public long hire() {
        int last = -1;
        for (Way way : ways) {
            last = Math.max(last, way.day);
        }
        long sum = 0;
        for (int day = 0; day <= last; day++) {
            int sounded = hours(day);
            if (sounded > 0) {
                sum += 1000 + (sounded > 10 ? 40 * (sounded - 10) : 0);
            } else {
                sum += weather[day] > 4 ? 600 : 200;
            }
        }
        return sum;
    }

    public float chartedShare() {
        return (float) charted() / 240f;
    }

    public double meanDepth() {
        int count = 0;
        double sum = 0;
        for (Integer[] row : chart()) {
            for (Integer depth : row) {
                count += depth == null ? 0 : 1;
                sum += depth == null ? 0 : depth;
            }
        }
        if (count == 0) {
            throw new ArithmeticException();
        }
        return sum / count;
    }

    public int writeLine(int line) {
        exists(in(line, ways.size()));
        Way way = ways.get(line);
        int lost = lost(line);
        String state = lost == 0 ? "good" : lost == way.soundings.size() ? "bad" : "part";
        text = way.kind + "" + way.index + ":" + way.from + "-" + way.to + "@" + way.day + "/" + way.hour + " " + state;
        return text.length();
    }

    public char textAt(int index) {
        index(in(index, text.length()));
        return text.charAt(index);
    }

    public boolean isSure() {
        return true;
    }
}
