/** Promises 21 to 36: every exception, in the order in which they are listed; none changes anything. */
final class ChartRefusalTest {
    private static final Twins FRESH = new Twins(Made::fresh);
    private static final Twins ORDINARY = new Twins(Made::ordinary);
    private static final Twins FULL = new Twins(Made::full);
    private static final Twins UNKNOWN = new Twins(ChartRefusalTest::withoutTides);

    private ChartRefusalTest() {
    }

    public static void main(String[] args) {
        depths();
        gaps();
        bestRow();
        dayOf();
        crossing();
        worstCross();
        hours();
        meanDepth();
        texts();
        FRESH.end();
        ORDINARY.end();
        FULL.end();
        UNKNOWN.end();
        Checks.end("ChartRefusalTest");
    }

    /** Lines 0 and 1 cross, 2 and 3 too, and 0 and 3; no tide is known on the days of lines 0 and 1. */
    private static SwathSurvey withoutTides() {
        SwathSurvey x = new SwathSurvey();
        x.addGauge(7);
        x.fail(0, 0, 0, 24);
        x.fail(0, 1, 0, 24);
        x.run('r', 3, 0, 9, 0, 0);
        x.run('c', 9, 0, 3, 1, 0);
        x.run('r', 5, 2, 8, 2, 0);
        x.run('c', 2, 1, 5, 3, 0);
        x.writeLine(1);
        return x;
    }

    private static void depths() {
        for (int column : Made.outside(20)) {
            FRESH.refuse(Checks.INDEX, x -> x.depth(column, 0));
            FRESH.refuse(Checks.INDEX, x -> x.depthAnew(column, 0));
            FULL.refuse(Checks.INDEX, x -> x.depth(column, 11));
            FULL.refuse(Checks.INDEX, x -> x.depthAnew(column, 11));
        }
        for (int row : Made.outside(12)) {
            FRESH.refuse(Checks.INDEX, x -> x.depth(0, row));
            FRESH.refuse(Checks.INDEX, x -> x.depthAnew(0, row));
            FULL.refuse(Checks.INDEX, x -> x.depth(19, row));
            FULL.refuse(Checks.INDEX, x -> x.depthAnew(19, row));
        }
        for (int[] cell : new int[][] {{0, 0}, {19, 0}, {0, 11}, {19, 11}}) {
            FRESH.refuse(Checks.UNSUPPORTED, x -> x.depth(cell[0], cell[1]));
            FRESH.refuse(Checks.UNSUPPORTED, x -> x.depthAnew(cell[0], cell[1]));
            ORDINARY.refuse(Checks.UNSUPPORTED, x -> x.depth(cell[0], cell[1]));
            ORDINARY.refuse(Checks.UNSUPPORTED, x -> x.depthAnew(cell[0], cell[1]));
        }
    }

    private static void gaps() {
        for (int index : Made.outside(240)) {
            FRESH.refuse(Checks.MISSING, x -> x.gap(index));
        }
        for (int index : new int[] {Integer.MIN_VALUE, -1, 0, 239, Integer.MAX_VALUE}) {
            FULL.refuse(Checks.MISSING, x -> x.gap(index));
        }
        int gaps = 240 - Made.ordinary().charted();
        for (int index : Made.outside(gaps)) {
            ORDINARY.refuse(Checks.MISSING, x -> x.gap(index));
        }
    }

    private static void bestRow() {
        FULL.refuse(Checks.STATE, SwathSurvey::bestRow);
    }

    private static void dayOf() {
        FRESH.refuse(Checks.MISSING, x -> x.dayOf(0));
        for (int line : Made.outside(3)) {
            ORDINARY.refuse(Checks.MISSING, x -> x.dayOf(line));
        }
        for (int line : Made.outside(16)) {
            FULL.refuse(Checks.MISSING, x -> x.dayOf(line));
        }
    }

    private static void crossing() {
        FRESH.refuse(Checks.MISSING, x -> x.cross(0, 0));
        for (int none : Made.outside(4)) {
            for (int line = 0; line < 4; line++) {
                int other = line;
                UNKNOWN.refuse(Checks.MISSING, x -> x.cross(none, other));
                UNKNOWN.refuse(Checks.MISSING, x -> x.cross(other, none));
            }
            // Both are the same, but there is none.
            UNKNOWN.refuse(Checks.MISSING, x -> x.cross(none, none));
        }
        // The same one, the same kind and no crossing; of 0, 1 and 2 one is not reduced besides.
        for (int[] pair : new int[][] {{0, 0}, {1, 1}, {2, 2}, {3, 3}, {0, 2}, {1, 3}, {1, 2}}) {
            UNKNOWN.refuse(Checks.ARGUMENT, x -> x.cross(pair[0], pair[1]));
            UNKNOWN.refuse(Checks.ARGUMENT, x -> x.cross(pair[1], pair[0]));
        }
        for (int[] pair : new int[][] {{0, 1}, {0, 3}}) {
            UNKNOWN.refuse(Checks.UNSUPPORTED, x -> x.cross(pair[0], pair[1]));
            UNKNOWN.refuse(Checks.UNSUPPORTED, x -> x.cross(pair[1], pair[0]));
        }
        Checks.due(0, () -> withoutTides().cross(2, 3));
        Checks.due(0, () -> withoutTides().cross(3, 2));
    }

    private static void worstCross() {
        FRESH.refuse(Checks.UNSUPPORTED, SwathSurvey::worstCross);
        Twins lost = new Twins(() -> {
            SwathSurvey x = withoutTides();
            x.fail(0, 3, 0, 24);
            return x;
        });
        lost.refuse(Checks.UNSUPPORTED, SwathSurvey::worstCross);
        lost.end();
    }

    private static void hours() {
        for (int day : Made.outside(10)) {
            FRESH.refuse(Checks.INDEX, x -> x.hours(day));
            ORDINARY.refuse(Checks.INDEX, x -> x.hours(day));
        }
    }

    private static void meanDepth() {
        FRESH.refuse(Checks.ARITHMETIC, SwathSurvey::meanDepth);
        Twins lost = new Twins(() -> {
            SwathSurvey x = new SwathSurvey();
            x.run('r', 2, 0, 19, 0, 0);
            return x;
        });
        lost.refuse(Checks.ARITHMETIC, SwathSurvey::meanDepth);
        lost.end();
    }

    private static void texts() {
        FRESH.refuse(Checks.MISSING, x -> x.writeLine(0));
        for (int line : Made.outside(3)) {
            ORDINARY.refuse(Checks.MISSING, x -> x.writeLine(line));
        }
        FULL.refuse(Checks.MISSING, x -> x.writeLine(16));
        for (int index : new int[] {Integer.MIN_VALUE, -1, 0, 1, Integer.MAX_VALUE}) {
            FRESH.refuse(Checks.INDEX, x -> x.textAt(index));
        }
        // The text is "r4:0-9@0/6 good".
        for (int index : Made.outside(15)) {
            ORDINARY.refuse(Checks.INDEX, x -> x.textAt(index));
        }
    }
}
