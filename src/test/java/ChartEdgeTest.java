/** The boundary cases of the chart, a test for each sentence (promises 21 to 25, 33, 34 and 37). */
final class ChartEdgeTest {
    private ChartEdgeTest() {
    }

    public static void main(String[] args) {
        theDepthIsTheLeastOne();
        theDepthIsOfNoSpike();
        aCellWithSpikesAloneHasNoDepth();
        noDepthIsFromATimeWhoseTideIsNotKnown();
        theDepthFollowsTheWater();
        theDepthFollowsTheGauges();
        theDepthFollowsTheLines();
        theDepthDoesNotFollowTheFloorAndTheWeather();
        depthsAtTheCornersOfTheChart();
        chartedCellsAreCountedFromNoneToAll();
        gapsAreInTheOrderOfRows();
        theLastGapIsTheLastOne();
        theBestRowIsTheOneWithTheLowestNumber();
        theBestRowMayBeAnyRow();
        theBestRowIsSoundedByTheFloorAsItIsNow();
        theBestRowIsForCellsWithoutADepth();
        oneCellWithoutADepthIsEnoughForABestRow();
        theShareIsConvertedToFloat();
        theMeanIsConvertedToDouble();
        theKeptDepthsAreAlwaysSure();
        Checks.end("ChartEdgeTest");
    }

    private static void dueDepth(SwathSurvey x, Object want, int column, int row) {
        Checks.due(want, () -> x.depth(column, row));
        Checks.due(want, () -> x.depthAnew(column, row));
        Checks.due(true, x::isSure);
    }

    /** Rows 2, 7 and 11 are run from end to end, so that each cell has a depth of 20. */
    private static SwathSurvey full() {
        SwathSurvey x = new SwathSurvey();
        x.addGauge(0);
        x.run('r', 2, 0, 19, 0, 0);
        x.run('r', 7, 0, 19, 0, 4);
        x.run('r', 11, 0, 19, 0, 8);
        return x;
    }

    /** "The depth of the chart in a cell is the least one of all reduced soundings of it ..." */
    private static void theDepthIsTheLeastOne() {
        SwathSurvey x = new SwathSurvey();
        x.addGauge(0);
        x.run('r', 5, 3, 3, 0, 0);
        x.run('c', 3, 5, 5, 0, 1);
        x.run('r', 6, 3, 3, 0, 2);
        int[][] errors = {{0, 0, 0}, {1, 2, 3}, {3, 2, 1}, {2, 1, 3}, {-60, 60, 0}, {60, -60, 0}, {60, 60, -60},
            {60, 60, 60}, {-60, -60, -60}, {-20, -21, -19}};
        int[] least = {20, 21, 21, 21, -40, -40, -40, 80, -40, -1};
        for (int number = 0; number < errors.length; number++) {
            x.disturb(0, 0, 0, errors[number][0]);
            x.disturb(1, 0, 0, errors[number][1]);
            x.disturb(2, 0, -1, errors[number][2]);
            dueDepth(x, least[number], 3, 5);
        }
    }

    /** "... that are no spikes." */
    private static void theDepthIsOfNoSpike() {
        SwathSurvey x = new SwathSurvey();
        x.addGauge(0);
        x.run('r', 5, 0, 4, 0, 0);
        x.run('r', 5, 0, 4, 0, 1);
        x.disturb(0, 2, 0, -6);
        dueDepth(x, 20, 2, 5);
        x.disturb(0, 2, 0, -5);
        dueDepth(x, 15, 2, 5);
        x.disturb(1, 2, 0, -6);
        dueDepth(x, 15, 2, 5);
        x.disturb(0, 2, 0, 5);
        dueDepth(x, 25, 2, 5);
    }

    private static void aCellWithSpikesAloneHasNoDepth() {
        SwathSurvey x = new SwathSurvey();
        x.addGauge(0);
        x.run('r', 5, 0, 4, 0, 0);
        x.run('r', 5, 0, 4, 0, 1);
        x.disturb(0, 2, 0, -6);
        x.disturb(1, 2, 0, 6);
        dueDepth(x, Checks.UNSUPPORTED, 2, 5);
        dueDepth(x, 20, 2, 4);
        Checks.due(24, x::charted);
        Checks.due(2, () -> x.spikes(0) + x.spikes(1));
        x.run('c', 2, 5, 5, 0, 2);
        dueDepth(x, 20, 2, 5);
        Checks.due(25, x::charted);
    }

    /** "No cell of the chart has a depth from a time whose tide is not known." */
    private static void noDepthIsFromATimeWhoseTideIsNotKnown() {
        SwathSurvey x = new SwathSurvey();
        x.run('r', 5, 0, 9, 0, 10);
        dueDepth(x, Checks.UNSUPPORTED, 0, 5);
        x.addGauge(0);
        dueDepth(x, 20, 0, 5);
        x.fail(0, 0, 5, 11);
        dueDepth(x, Checks.UNSUPPORTED, 0, 5);
        dueDepth(x, Checks.UNSUPPORTED, 4, 7);
        dueDepth(x, 20, 5, 5);
        Checks.due(25, x::charted);
        x.run('r', 5, 0, 1, 1, 0);
        x.disturb(1, 0, 0, 4);
        // What is lost was less deep, but does not count.
        dueDepth(x, 24, 0, 5);
        Checks.due(35, x::charted);
        x.mend(0, 0);
        dueDepth(x, 20, 0, 5);
        Checks.due(50, x::charted);
    }

    private static void theDepthFollowsTheWater() {
        SwathSurvey x = new SwathSurvey();
        x.addGauge(19);
        x.run('r', 5, 0, 4, 3, 10);
        x.setWater(3, 10, 7);
        dueDepth(x, 13, 0, 5);
        x.setWater(3, 10, 1);
        dueDepth(x, 19, 0, 5);
        x.setSlope(3, 2);
        dueDepth(x, 10, 0, 5);
        x.setSlope(3, -2);
        dueDepth(x, 29, 0, 5);
        x.setSlope(2, 2);
        x.setWater(2, 10, 30);
        x.setWater(3, 11, 30);
        dueDepth(x, 29, 0, 5);
    }

    private static void theDepthFollowsTheGauges() {
        SwathSurvey x = new SwathSurvey();
        x.run('r', 5, 3, 3, 3, 10);
        x.setSlope(3, 2);
        x.setWater(3, 9, 10);
        x.addGauge(8);
        dueDepth(x, 16, 3, 5);
        x.addGauge(2);
        dueDepth(x, 19, 3, 5);
        x.fail(1, 3, 10, 11);
        // Gauge 1 tells 1 + 5, and gauge 0 still 4: of 6 and 4, 5 is told.
        dueDepth(x, 15, 3, 5);
        x.fail(1, 3, 9, 24);
        dueDepth(x, 16, 3, 5);
        x.fail(0, 3, 10, 24);
        dueDepth(x, Checks.UNSUPPORTED, 3, 5);
        x.mend(1, 3);
        dueDepth(x, 19, 3, 5);
    }

    private static void theDepthFollowsTheLines() {
        SwathSurvey x = new SwathSurvey();
        x.addGauge(0);
        x.run('r', 5, 3, 3, 3, 10);
        dueDepth(x, 20, 3, 5);
        x.disturb(0, 0, 0, 9);
        dueDepth(x, 29, 3, 5);
        x.run('c', 3, 2, 2, 3, 11);
        x.disturb(1, 0, 0, 1);
        dueDepth(x, 21, 3, 2);
        x.runAnew(0, 3, 10);
        dueDepth(x, 20, 3, 5);
        dueDepth(x, 20, 3, 3);
        x.setFloor(3, 5, 19);
        x.runAnew(0, 3, 10);
        dueDepth(x, 19, 3, 5);
        dueDepth(x, 20, 3, 4);
        dueDepth(x, Checks.UNSUPPORTED, 3, 3);
        dueDepth(x, Checks.UNSUPPORTED, 3, 7);
        dueDepth(x, 21, 3, 2);
    }

    private static void theDepthDoesNotFollowTheFloorAndTheWeather() {
        SwathSurvey x = new SwathSurvey();
        x.addGauge(0);
        x.run('r', 5, 3, 3, 3, 10);
        x.setFloor(3, 5, 1);
        x.setFloor(3, 7, 99);
        x.setWeather(3, 9);
        dueDepth(x, 20, 3, 5);
        dueDepth(x, 20, 3, 7);
        dueDepth(x, Checks.UNSUPPORTED, 3, 8);
        Checks.due(5, x::charted);
    }

    private static void depthsAtTheCornersOfTheChart() {
        SwathSurvey x = new SwathSurvey();
        x.addGauge(0);
        int[][] corners = {{0, 0}, {19, 0}, {0, 11}, {19, 11}};
        for (int number = 0; number < corners.length; number++) {
            x.setFloor(corners[number][0], corners[number][1], 50 + number);
            x.run(number % 2 == 0 ? 'r' : 'c', number % 2 == 0 ? corners[number][1] : corners[number][0],
                number % 2 == 0 ? corners[number][0] : corners[number][1],
                number % 2 == 0 ? corners[number][0] : corners[number][1], 9, number);
            dueDepth(x, 50 + number, corners[number][0], corners[number][1]);
            Checks.due(4 * number + 4, x::charted);
        }
        for (int[] outside : new int[][] {{-1, 0}, {20, 0}, {0, -1}, {0, 12}, {-1, 1}, {20, 10}}) {
            Checks.due(Checks.INDEX, () -> x.depth(outside[0], outside[1]));
            Checks.due(Checks.INDEX, () -> x.depthAnew(outside[0], outside[1]));
        }
    }

    private static void chartedCellsAreCountedFromNoneToAll() {
        SwathSurvey x = full();
        Checks.due(240, x::charted);
        for (int number = 0; number < 240; number++) {
            int column = number % 20;
            int row = number / 20;
            Checks.due(20, () -> x.depth(column, row));
        }
        x.fail(0, 0, 0, 24);
        Checks.due(0, x::charted);
        x.mend(0, 0);
        Checks.due(240, x::charted);
        x.disturb(0, 19, 2, 6);
        Checks.due(239, x::charted);
        Checks.due(true, x::isSure);
    }

    /** "Returns a cell without a depth, by rising rows, in each row by rising columns." */
    private static void gapsAreInTheOrderOfRows() {
        SwathSurvey x = full();
        Checks.due(Checks.MISSING, () -> x.gap(0));
        x.disturb(2, 19, 0, 6);
        x.disturb(0, 5, -1, 6);
        x.disturb(0, 0, -2, 6);
        x.disturb(1, 3, -2, 6);
        x.disturb(1, 17, -2, 6);
        x.disturb(0, 19, -2, 6);
        int[] want = {0, 19, 105, 503, 517, 1119};
        for (int number = 0; number < want.length; number++) {
            int index = number;
            Checks.due(want[index], () -> x.gap(index));
        }
        Checks.due(Checks.MISSING, () -> x.gap(6));
        Checks.due(Checks.MISSING, () -> x.gap(-1));
    }

    /** "... if there is no such cell." */
    private static void theLastGapIsTheLastOne() {
        SwathSurvey x = new SwathSurvey();
        Checks.due(1119, () -> x.gap(239));
        Checks.due(Checks.MISSING, () -> x.gap(240));
        Checks.due(0, () -> x.gap(0));
        Checks.due(Checks.MISSING, () -> x.gap(-1));
        x.addGauge(0);
        x.run('r', 0, 0, 0, 0, 0);
        Checks.due(1, () -> x.gap(0));
        Checks.due(1119, () -> x.gap(236));
        Checks.due(Checks.MISSING, () -> x.gap(237));
        Checks.due(Checks.MISSING, () -> x.gap(Integer.MAX_VALUE));
        Checks.due(Checks.MISSING, () -> x.gap(Integer.MIN_VALUE));
    }

    /** "... of several, the one with the lowest number." */
    private static void theBestRowIsTheOneWithTheLowestNumber() {
        SwathSurvey x = new SwathSurvey();
        Checks.due(2, x::bestRow);
        for (int column = 0; column < 20; column++) {
            for (int row = 0; row < 12; row++) {
                x.setFloor(column, row, 9);
            }
        }
        // Each row sounds its own 20 cells alone.
        Checks.due(0, x::bestRow);
        x.setFloor(19, 10, 10);
        Checks.due(10, x::bestRow);
        x.setFloor(0, 4, 10);
        Checks.due(4, x::bestRow);
        // At the edge of the chart there is a cell at one side only: 21 cells instead of 22.
        x.setFloor(7, 0, 10);
        Checks.due(4, x::bestRow);
        x.setFloor(8, 0, 10);
        Checks.due(0, x::bestRow);
    }

    private static void theBestRowMayBeAnyRow() {
        for (int number = 0; number < 12; number++) {
            int row = number;
            SwathSurvey x = new SwathSurvey();
            for (int cell = 0; cell < 240; cell++) {
                x.setFloor(cell % 20, cell / 20, cell / 20 == row ? 10 : 9);
            }
            Checks.due(row, x::bestRow);
        }
    }

    /** "... a line along the whole row, run now." */
    private static void theBestRowIsSoundedByTheFloorAsItIsNow() {
        SwathSurvey x = new SwathSurvey();
        x.setFloor(0, 6, 30);
        Checks.due(6, x::bestRow);
        x.setFloor(0, 6, 29);
        Checks.due(2, x::bestRow);
        x.setFloor(0, 2, 19);
        Checks.due(3, x::bestRow);
        x.setFloor(0, 8, 39);
        Checks.due(8, x::bestRow);
        x.setFloor(19, 4, 99);
        Checks.due(4, x::bestRow);
        x.setFloor(19, 4, 1);
        Checks.due(8, x::bestRow);
    }

    /** "... would sound the most cells that have no depth." */
    private static void theBestRowIsForCellsWithoutADepth() {
        SwathSurvey x = new SwathSurvey();
        x.addGauge(0);
        x.run('r', 2, 0, 0, 0, 0);
        // Row 2 would gain 95 cells, the rows 3 and 4 a few more of its column; row 5 gains 98, row 6 99, row 7 100.
        Checks.due(7, x::bestRow);
        x.fail(0, 0, 0, 24);
        Checks.due(2, x::bestRow);
        x.mend(0, 0);
        x.run('r', 9, 5, 5, 0, 1);
        // Row 7 loses 3 cells, and so does row 5 to 7: row 5 has 98 - 1, row 4 97, row 3 96.
        Checks.due(4, x::bestRow);
    }

    /** "Throws IllegalStateException if all cells have a depth." */
    private static void oneCellWithoutADepthIsEnoughForABestRow() {
        SwathSurvey x = full();
        Checks.due(Checks.STATE, x::bestRow);
        x.disturb(2, 19, 0, 6);
        Checks.due(239, x::charted);
        Checks.due(9, x::bestRow);
        x.disturb(2, 19, 0, 0);
        Checks.due(Checks.STATE, x::bestRow);
        x.disturb(0, 19, -2, 6);
        Checks.due(0, x::bestRow);
        x.setFloor(19, 0, 9);
        x.setFloor(19, 1, 9);
        x.setFloor(19, 2, 9);
        Checks.due(0, x::bestRow);
        x.disturb(0, 19, -2, 0);
        x.disturb(1, 10, 0, 6);
        for (int row = 4; row < 12; row++) {
            x.setFloor(10, row, row == 8 ? 10 : 9);
        }
        // Of row 7 the cell is missing, and both row 7 and row 8 would sound it.
        Checks.due(7, x::bestRow);
        // Of row 5 the cell is missing: row 3 would sound it, then row 5 alone, then row 4 and row 2.
        x.disturb(1, 10, 0, 0);
        x.disturb(1, 10, -2, 6);
        Checks.due(3, x::bestRow);
        x.setFloor(10, 3, 19);
        Checks.due(5, x::bestRow);
        x.setFloor(10, 4, 10);
        Checks.due(4, x::bestRow);
        x.setFloor(10, 2, 30);
        Checks.due(2, x::bestRow);
        x.setFloor(10, 2, 29);
        Checks.due(4, x::bestRow);
    }

    /** "Returns their number divided by 240, both converted to float." */
    private static void theShareIsConvertedToFloat() {
        SwathSurvey x = new SwathSurvey();
        Checks.due(0.0f, x::chartedShare);
        x.addGauge(0);
        x.setFloor(0, 0, 9);
        x.run('r', 0, 0, 0, 0, 0);
        Checks.due(0.004166667f, x::chartedShare);
        x.run('r', 7, 0, 13, 0, 1);
        // 71 of 240.
        Checks.due(0.29583332f, x::chartedShare);
        SwathSurvey y = full();
        Checks.due(1.0f, y::chartedShare);
        y.disturb(0, 0, 0, 6);
        Checks.due(0.99583334f, y::chartedShare);
    }

    /** "Returns the sum of the depths divided by the number of cells that have one, both converted to double." */
    private static void theMeanIsConvertedToDouble() {
        SwathSurvey x = new SwathSurvey();
        Checks.due(Checks.ARITHMETIC, x::meanDepth);
        x.setFloor(0, 0, 9);
        x.run('r', 0, 0, 0, 0, 0);
        Checks.due(Checks.ARITHMETIC, x::meanDepth);
        x.addGauge(0);
        Checks.due(9.0, x::meanDepth);
        x.run('r', 11, 5, 5, 0, 1);
        // 9 and 3 of 20.
        Checks.due(17.25, x::meanDepth);
        x.disturb(0, 0, 0, -60);
        Checks.due(2.25, x::meanDepth);
        x.disturb(1, 0, 0, -59);
        Checks.due(-12.5, x::meanDepth);
        x.fail(0, 0, 0, 1);
        Checks.due(1.0 / 3.0, x::meanDepth);
        x.fail(0, 0, 0, 24);
        Checks.due(Checks.ARITHMETIC, x::meanDepth);
        Checks.due(20.0, full()::meanDepth);
    }

    /** "... the kept depths are those found anew, and each of them comes from a sounding whose tide is known." */
    private static void theKeptDepthsAreAlwaysSure() {
        Checks.due(true, new SwathSurvey()::isSure);
        SwathSurvey x = full();
        Checks.due(true, x::isSure);
        for (int hour = 0; hour < 12; hour++) {
            x.setWater(0, hour, 2 * hour);
            Checks.due(true, x::isSure);
            x.disturb(hour % 3, hour, 0, hour);
            Checks.due(true, x::isSure);
            x.fail(0, 0, hour, hour + 1);
            Checks.due(true, x::isSure);
        }
        x.mend(0, 0);
        Checks.due(true, x::isSure);
        x.addGauge(19);
        Checks.due(true, x::isSure);
        x.setSlope(0, -2);
        Checks.due(true, x::isSure);
        x.runAnew(1, 5, 20);
        Checks.due(true, x::isSure);
        x.setFloor(0, 0, 99);
        x.setWeather(0, 9);
        Checks.due(true, x::isSure);
    }
}
