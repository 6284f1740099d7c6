/** The boundary cases of lines and of what they sound, a test for each sentence (promises 12 to 16). */
final class LineEdgeTest {
    private LineEdgeTest() {
    }

    public static void main(String[] args) {
        aLineRunsAlongARowOrAlongAColumn();
        aRowIsInTheChart();
        aColumnIsInTheChart();
        aLineMayHaveOneCell();
        aLineRunsInRisingOrFallingOrder();
        theShipSounds5CellsInEachHour();
        weatherOf4IsNotTooBad();
        weatherCountsWhenALineIsRun();
        thereAreAtMost16Lines();
        aLineEndsOnItsDay();
        aLineBeginsBehindAnother();
        aLineEndsBeforeAnother();
        linesOfOtherDaysTakeNoHours();
        aLineRunAnewLeavesItsHours();
        aLineRunAnewMayTakeItsOwnHours();
        aLineRunAnewTakesNoHoursOfOthers();
        aLineRunAnewEndsOnItsDay();
        aLineRunAnewNeedsCalmWeather();
        allErrorsAre0Anew();
        runningAnewTellsWhatIsCharted();
        asManySidesAsTheDepthDividedBy10();
        swathsStayInTheChart();
        theLeastAndTheMostSoundings();
        aSoundingIsTheFloorPlusTheWaterPlusAnError();
        theWaterIsThatInTheColumnOfTheShip();
        theFloorAndTheWaterAreAsTheyWere();
        errorsAreFromMinus60To60();
        anErrorTakesThePlaceOfTheOneBefore();
        Checks.end("LineEdgeTest");
    }

    /** "kind: 'r' along a row, 'c' along a column." */
    private static void aLineRunsAlongARowOrAlongAColumn() {
        SwathSurvey x = new SwathSurvey();
        x.setFloor(3, 4, 55);
        for (char kind : new char[] {'q', 's', 'b', 'd', 'R', 'C', 0, 65535}) {
            Checks.due(Checks.ARGUMENT, () -> x.run(kind, 4, 0, 5, 0, 0));
        }
        Checks.due(0, () -> x.run('r', 4, 0, 5, 0, 0));
        Checks.due(1, () -> x.run('c', 3, 0, 5, 0, 2));
        Checks.due(55, () -> x.sounding(0, 3, 0));
        Checks.due(55, () -> x.sounding(1, 4, 0));
        Checks.due(20, () -> x.sounding(0, 4, 0));
        Checks.due(20, () -> x.sounding(1, 3, 0));
    }

    /** "... if there is no such row, column, cell, day or hour." */
    private static void aRowIsInTheChart() {
        SwathSurvey x = new SwathSurvey();
        Checks.due(Checks.INDEX, () -> x.run('r', -1, 0, 0, 0, 0));
        Checks.due(Checks.INDEX, () -> x.run('r', 12, 0, 0, 0, 0));
        Checks.due(Checks.INDEX, () -> x.run('r', 19, 0, 0, 0, 0));
        Checks.due(Checks.INDEX, () -> x.run('r', 0, -1, 0, 0, 0));
        Checks.due(Checks.INDEX, () -> x.run('r', 0, 20, 0, 0, 0));
        Checks.due(Checks.INDEX, () -> x.run('r', 0, 0, -1, 0, 0));
        Checks.due(Checks.INDEX, () -> x.run('r', 0, 0, 20, 0, 0));
        Checks.due(0, () -> x.run('r', 0, 0, 19, 0, 0));
        Checks.due(1, () -> x.run('r', 11, 19, 0, 9, 20));
    }

    private static void aColumnIsInTheChart() {
        SwathSurvey x = new SwathSurvey();
        Checks.due(Checks.INDEX, () -> x.run('c', -1, 0, 0, 0, 0));
        Checks.due(Checks.INDEX, () -> x.run('c', 20, 0, 0, 0, 0));
        Checks.due(Checks.INDEX, () -> x.run('c', 0, -1, 0, 0, 0));
        Checks.due(Checks.INDEX, () -> x.run('c', 0, 12, 0, 0, 0));
        Checks.due(Checks.INDEX, () -> x.run('c', 0, 0, -1, 0, 0));
        Checks.due(Checks.INDEX, () -> x.run('c', 0, 0, 12, 0, 0));
        Checks.due(0, () -> x.run('c', 0, 0, 11, 0, 0));
        Checks.due(1, () -> x.run('c', 19, 11, 0, 9, 21));
        Checks.due(2, () -> x.run('c', 12, 0, 0, 9, 20));
    }

    /** "to: the column or the row of its last cell, or the same one." */
    private static void aLineMayHaveOneCell() {
        SwathSurvey x = new SwathSurvey();
        Checks.due(0, () -> x.run('r', 11, 19, 19, 0, 23));
        Checks.due(1, () -> x.run('c', 0, 0, 0, 0, 22));
        Checks.due(2, () -> x.hours(0));
        for (int line = 0; line < 2; line++) {
            int asked = line;
            Checks.due(20, () -> x.sounding(asked, 0, 0));
            Checks.due(Checks.INDEX, () -> x.sounding(asked, 1, 0));
            Checks.due(Checks.INDEX, () -> x.sounding(asked, -1, 0));
            Checks.due(3, () -> x.soundings(asked));
        }
    }

    /** "... from a cell to another one, in the order of rising or of falling numbers." */
    private static void aLineRunsInRisingOrFallingOrder() {
        SwathSurvey x = new SwathSurvey();
        for (int column = 0; column < 20; column++) {
            x.setFloor(column, 6, 40 + column);
        }
        for (int row = 0; row < 12; row++) {
            x.setFloor(7, row, 70 + row);
        }
        x.run('r', 6, 8, 19, 0, 0);
        x.run('r', 6, 6, 0, 0, 3);
        x.run('c', 7, 0, 11, 0, 5);
        x.run('c', 7, 11, 0, 0, 8);
        for (int number = 0; number < 12; number++) {
            int cell = number;
            Checks.due(48 + cell, () -> x.sounding(0, cell, 0));
            Checks.due(cell < 7 ? 46 - cell : Checks.INDEX, () -> x.sounding(1, cell, 0));
            Checks.due(70 + cell, () -> x.sounding(2, cell, 0));
            Checks.due(81 - cell, () -> x.sounding(3, cell, 0));
        }
        for (int line = 0; line < 4; line++) {
            int asked = line;
            Checks.due(Checks.INDEX, () -> x.sounding(asked, 12, 0));
            Checks.due(Checks.INDEX, () -> x.sounding(asked, -1, 0));
        }
        // A side less than 0 is for lower rows or columns, in whichever order the line runs.
        Checks.due(48, () -> x.sounding(2, 6, 1));
        Checks.due(46, () -> x.sounding(2, 6, -1));
        Checks.due(48, () -> x.sounding(3, 5, 1));
        Checks.due(46, () -> x.sounding(3, 5, -1));
        x.setFloor(3, 5, 11);
        x.setFloor(3, 7, 12);
        x.runAnew(1, 0, 3);
        x.run('r', 6, 0, 9, 1, 0);
        Checks.due(11, () -> x.sounding(1, 3, -1));
        Checks.due(12, () -> x.sounding(1, 3, 1));
        Checks.due(11, () -> x.sounding(4, 3, -1));
        Checks.due(12, () -> x.sounding(4, 3, 1));
    }

    /** "... its cell with the number k is sounded in the hour k divided by 5, rounded down, behind the first one." */
    private static void theShipSounds5CellsInEachHour() {
        SwathSurvey x = new SwathSurvey();
        for (int hour = 0; hour < 24; hour++) {
            x.setWater(9, hour, hour);
            x.setWater(0, hour, 23 - hour);
        }
        x.run('r', 3, 0, 19, 9, 20);
        x.run('c', 3, 11, 0, 0, 0);
        int[] rising = {20, 20, 20, 20, 20, 21, 21, 21, 21, 21, 22, 22, 22, 22, 22, 23, 23, 23, 23, 23};
        int[] falling = {23, 23, 23, 23, 23, 22, 22, 22, 22, 22, 21, 21};
        for (int number = 0; number < 20; number++) {
            int cell = number;
            Checks.due(20 + rising[cell], () -> x.sounding(0, cell, 0));
            Checks.due(20 + rising[cell], () -> x.sounding(0, cell, -2));
            Checks.due(cell < 12 ? 20 + falling[cell] : Checks.INDEX, () -> x.sounding(1, cell, 0));
        }
        Checks.due(4, () -> x.hours(9));
        Checks.due(3, () -> x.hours(0));
    }

    /** "... if the weather of the day is worse than 4." */
    private static void weatherOf4IsNotTooBad() {
        SwathSurvey x = new SwathSurvey();
        for (int force = 0; force <= 9; force++) {
            int day = force;
            x.setWeather(day, force);
            Checks.due(force <= 4 ? day : Checks.UNSUPPORTED, () -> x.run('r', 0, 0, 0, day, 0));
        }
        x.setWeather(5, 4);
        Checks.due(5, () -> x.run('r', 0, 0, 0, 5, 0));
        x.setWeather(5, 5);
        Checks.due(Checks.UNSUPPORTED, () -> x.run('r', 0, 0, 0, 5, 1));
        // The day would be too short besides, but the weather is listed first.
        Checks.due(Checks.UNSUPPORTED, () -> x.run('r', 0, 0, 19, 9, 23));
        Checks.due(Checks.INDEX, () -> x.run('r', 0, 0, 19, 9, 24));
    }

    private static void weatherCountsWhenALineIsRun() {
        SwathSurvey x = new SwathSurvey();
        x.addGauge(0);
        x.run('r', 0, 0, 9, 3, 0);
        x.setWeather(3, 9);
        Checks.due(30, () -> x.soundings(0));
        Checks.due(30, x::charted);
        Checks.due(3, () -> x.dayOf(0));
        Checks.due(1600L, x::hire);
    }

    /** "... if there are 16 lines." */
    private static void thereAreAtMost16Lines() {
        SwathSurvey x = new SwathSurvey();
        for (int number = 0; number < 16; number++) {
            int line = number;
            Checks.due(line, x::lines);
            Checks.due(Checks.MISSING, () -> x.dayOf(line));
            Checks.due(line, () -> x.run('c', line, 0, 0, 0, line));
            Checks.due(0, () -> x.dayOf(line));
        }
        Checks.due(16, x::lines);
        Checks.due(Checks.STATE, () -> x.run('c', 0, 0, 0, 9, 0));
        Checks.due(16, x::lines);
        Checks.due(Checks.MISSING, () -> x.dayOf(16));
        Checks.due(0, () -> x.runAnew(0, 9, 0));
        Checks.due(0, () -> x.runAnew(15, 9, 1));
        Checks.due(Checks.STATE, () -> x.run('c', 0, 0, 0, 0, 15));
    }

    /** "... it would not end on this day." */
    private static void aLineEndsOnItsDay() {
        int[][] cellsAndLastHours = {{1, 23}, {5, 23}, {6, 22}, {10, 22}, {11, 21}, {15, 21}, {16, 20}, {20, 20}};
        for (int[] each : cellsAndLastHours) {
            SwathSurvey x = new SwathSurvey();
            for (int hour = each[1] + 1; hour <= 23; hour++) {
                int asked = hour;
                Checks.due(Checks.STATE, () -> x.run('r', 0, 0, each[0] - 1, 0, asked));
                Checks.due(Checks.STATE, () -> x.run('r', 0, 19, 20 - each[0], 0, asked));
            }
            Checks.due(0, () -> x.run('r', 0, 0, each[0] - 1, 0, each[1]));
            Checks.due(1, () -> x.run('r', 0, 19, 20 - each[0], 9, each[1]));
            Checks.due(24 - each[1], () -> x.hours(0));
            Checks.due(24 - each[1], () -> x.hours(9));
        }
        SwathSurvey x = new SwathSurvey();
        Checks.due(Checks.STATE, () -> x.run('c', 0, 0, 11, 0, 22));
        Checks.due(0, () -> x.run('c', 0, 0, 11, 0, 21));
    }

    /** "... or the ship sounds another line in one of its hours." */
    private static void aLineBeginsBehindAnother() {
        SwathSurvey x = new SwathSurvey();
        x.run('r', 0, 0, 9, 4, 10);
        Checks.due(Checks.STATE, () -> x.run('r', 5, 0, 0, 4, 10));
        Checks.due(Checks.STATE, () -> x.run('r', 5, 0, 0, 4, 11));
        Checks.due(Checks.STATE, () -> x.run('r', 5, 0, 19, 4, 11));
        Checks.due(1, () -> x.run('r', 5, 0, 19, 4, 12));
        Checks.due(Checks.STATE, () -> x.run('r', 5, 0, 0, 4, 15));
        Checks.due(2, () -> x.run('r', 5, 0, 0, 4, 16));
    }

    private static void aLineEndsBeforeAnother() {
        SwathSurvey x = new SwathSurvey();
        x.run('r', 0, 0, 9, 4, 10);
        Checks.due(Checks.STATE, () -> x.run('r', 5, 0, 19, 4, 8));
        Checks.due(Checks.STATE, () -> x.run('r', 5, 0, 19, 4, 7));
        Checks.due(Checks.STATE, () -> x.run('r', 5, 0, 5, 4, 9));
        Checks.due(1, () -> x.run('r', 5, 0, 4, 4, 9));
        Checks.due(Checks.STATE, () -> x.run('r', 5, 0, 19, 4, 6));
        Checks.due(2, () -> x.run('r', 5, 0, 19, 4, 5));
        // The hours 5 to 11 are taken then.
        Checks.due(Checks.STATE, () -> x.run('c', 5, 0, 5, 4, 4));
        Checks.due(3, () -> x.run('c', 5, 0, 11, 4, 2));
    }

    private static void linesOfOtherDaysTakeNoHours() {
        SwathSurvey x = new SwathSurvey();
        x.run('r', 0, 0, 19, 4, 10);
        Checks.due(1, () -> x.run('r', 0, 0, 19, 3, 10));
        Checks.due(2, () -> x.run('r', 0, 0, 19, 5, 10));
        x.run('r', 0, 0, 0, 6, 23);
        Checks.due(4, () -> x.run('r', 0, 0, 0, 7, 0));
    }

    /** "Runs a line anew, in place of how it was run." */
    private static void aLineRunAnewLeavesItsHours() {
        SwathSurvey x = new SwathSurvey();
        x.run('r', 0, 0, 9, 4, 10);
        x.run('r', 3, 0, 0, 4, 12);
        Checks.due(0, () -> x.runAnew(0, 6, 0));
        Checks.due(6, () -> x.dayOf(0));
        Checks.due(1, () -> x.hours(4));
        Checks.due(2, () -> x.hours(6));
        Checks.due(2, () -> x.run('r', 5, 0, 9, 4, 10));
        Checks.due(Checks.STATE, () -> x.runAnew(0, 4, 10));
        Checks.due(Checks.STATE, () -> x.runAnew(0, 4, 11));
        Checks.due(Checks.STATE, () -> x.runAnew(0, 4, 12));
        Checks.due(0, () -> x.runAnew(0, 4, 13));
        Checks.due(3, x::lines);
    }

    /** "... or the ship sounds another line, not this one, in one of its hours." */
    private static void aLineRunAnewMayTakeItsOwnHours() {
        SwathSurvey x = new SwathSurvey();
        x.run('r', 0, 0, 19, 4, 10);
        for (int hour : new int[] {10, 11, 13, 12, 9, 6, 7, 10}) {
            Checks.due(0, () -> x.runAnew(0, 4, hour));
            Checks.due(4, () -> x.hours(4));
        }
    }

    private static void aLineRunAnewTakesNoHoursOfOthers() {
        SwathSurvey x = new SwathSurvey();
        x.run('r', 0, 0, 9, 4, 10);
        x.run('r', 3, 0, 9, 4, 14);
        Checks.due(Checks.STATE, () -> x.runAnew(0, 4, 13));
        Checks.due(Checks.STATE, () -> x.runAnew(0, 4, 14));
        Checks.due(Checks.STATE, () -> x.runAnew(0, 4, 15));
        Checks.due(Checks.STATE, () -> x.runAnew(1, 4, 9));
        Checks.due(Checks.STATE, () -> x.runAnew(1, 4, 10));
        Checks.due(Checks.STATE, () -> x.runAnew(1, 4, 11));
        Checks.due(0, () -> x.runAnew(0, 4, 12));
        Checks.due(0, () -> x.runAnew(0, 4, 16));
        Checks.due(0, () -> x.runAnew(1, 4, 12));
        Checks.due(0, () -> x.runAnew(1, 4, 14));
    }

    private static void aLineRunAnewEndsOnItsDay() {
        SwathSurvey x = new SwathSurvey();
        x.run('r', 0, 0, 4, 4, 10);
        x.run('r', 0, 0, 5, 5, 10);
        x.run('r', 0, 0, 19, 6, 10);
        Checks.due(0, () -> x.runAnew(0, 9, 23));
        Checks.due(Checks.INDEX, () -> x.runAnew(0, 9, 24));
        Checks.due(Checks.INDEX, () -> x.runAnew(0, 10, 0));
        Checks.due(Checks.INDEX, () -> x.runAnew(0, -1, 0));
        Checks.due(Checks.INDEX, () -> x.runAnew(0, 0, -1));
        Checks.due(0, () -> x.runAnew(0, 0, 0));
        Checks.due(Checks.STATE, () -> x.runAnew(1, 9, 23));
        Checks.due(0, () -> x.runAnew(1, 9, 22));
        Checks.due(Checks.STATE, () -> x.runAnew(2, 8, 21));
        Checks.due(0, () -> x.runAnew(2, 8, 20));
    }

    private static void aLineRunAnewNeedsCalmWeather() {
        SwathSurvey x = new SwathSurvey();
        x.run('r', 0, 0, 4, 4, 10);
        for (int force = 0; force <= 9; force++) {
            x.setWeather(7, force);
            Checks.due(force <= 4 ? 0 : Checks.UNSUPPORTED, () -> x.runAnew(0, 7, 5));
        }
        x.setWeather(4, 5);
        Checks.due(Checks.UNSUPPORTED, () -> x.runAnew(0, 4, 10));
        Checks.due(7, () -> x.dayOf(0));
    }

    /** "... all errors in it are 0." */
    private static void allErrorsAre0Anew() {
        SwathSurvey x = new SwathSurvey();
        for (int cell = 0; cell < 20; cell++) {
            x.setFloor(cell, 5, 30);
        }
        x.run('r', 5, 0, 19, 0, 0);
        x.run('r', 5, 0, 19, 0, 4);
        for (int slot = 0; slot < 140; slot++) {
            x.disturb(0, slot / 7, slot % 7 - 3, 60);
        }
        x.disturb(1, 0, 0, 7);
        x.runAnew(0, 0, 0);
        for (int slot = 0; slot < 140; slot++) {
            int cell = slot / 7;
            int side = slot % 7 - 3;
            Checks.due(0, () -> x.disturb(0, cell, side, 0));
        }
        Checks.due(7, () -> x.disturb(1, 0, 0, 0));
    }

    /** "Returns the number of cells of the chart that have a depth then." */
    private static void runningAnewTellsWhatIsCharted() {
        SwathSurvey x = new SwathSurvey();
        x.addGauge(0);
        x.run('r', 5, 0, 4, 0, 0);
        Checks.due(25, () -> x.runAnew(0, 0, 0));
        x.disturb(0, 2, 2, 5);
        // 21 soundings, but the depth of 9 is a spike.
        x.setFloor(2, 5, 9);
        Checks.due(20, () -> x.runAnew(0, 9, 23));
        // 27 soundings, but the depth of 99 is a spike; the error of the cell that is sounded once more is gone.
        x.setFloor(2, 5, 99);
        Checks.due(26, () -> x.runAnew(0, 9, 23));
        Checks.due(20, () -> x.sounding(0, 2, 2));
        x.fail(0, 9, 23, 24);
        Checks.due(0, () -> x.runAnew(0, 9, 23));
        Checks.due(26, () -> x.runAnew(0, 8, 23));
        x.run('r', 0, 0, 0, 8, 0);
        Checks.due(29, () -> x.runAnew(1, 8, 0));
    }

    /** "... as many as the depth of the floor in its own cell divided by 10, rounded down, but at most 3." */
    private static void asManySidesAsTheDepthDividedBy10() {
        int[] depths = {1, 9, 10, 19, 20, 29, 30, 39, 40, 99};
        int[] sides = {0, 0, 1, 1, 2, 2, 3, 3, 3, 3};
        SwathSurvey x = new SwathSurvey();
        for (int number = 0; number < depths.length; number++) {
            x.setFloor(5 + number, 5, depths[number]);
        }
        x.run('r', 5, 5, 14, 0, 0);
        for (int number = 0; number < depths.length; number++) {
            int cell = number;
            int last = sides[number];
            Checks.due(depths[cell], () -> x.sounding(0, cell, 0));
            for (int side = 1; side <= 4; side++) {
                int asked = side;
                Checks.due(asked <= last ? 20 : Checks.INDEX, () -> x.sounding(0, cell, asked));
                Checks.due(asked <= last ? 20 : Checks.INDEX, () -> x.sounding(0, cell, -asked));
            }
            // Along a column it is the depth in the same cell that counts.
            SwathSurvey y = new SwathSurvey();
            y.setFloor(5, 5, depths[number]);
            y.run('c', 5, 5, 5, 0, 0);
            Checks.due(2 * last + 1, () -> y.soundings(0));
            Checks.due(last > 0 ? 20 : Checks.INDEX, () -> y.sounding(0, 0, last == 0 ? 1 : last));
            Checks.due(Checks.INDEX, () -> y.sounding(0, 0, last + 1));
            Checks.due(Checks.INDEX, () -> y.sounding(0, 0, -last - 1));
        }
        Checks.due(10 + 2 * (1 + 1 + 2 + 2 + 3 + 3 + 3 + 3), () -> x.soundings(0));
    }

    /** "... as far as they are in the chart, and its own cell." */
    private static void swathsStayInTheChart() {
        int[] rows = {0, 1, 2, 3, 11, 10, 9, 8};
        int[] columns = {0, 1, 2, 3, 19, 18, 17, 16};
        SwathSurvey alongRows = new SwathSurvey();
        SwathSurvey alongColumns = new SwathSurvey();
        for (int number = 0; number < 8; number++) {
            alongRows.setFloor(number, rows[number], 30);
            alongRows.run('r', rows[number], number, number, 0, number);
            alongColumns.setFloor(columns[number], number, 30);
            alongColumns.run('c', columns[number], number, number, 0, number);
        }
        for (int line = 0; line < 8; line++) {
            dueSides(alongRows, line, line < 4 ? -line : -3, line < 4 ? 3 : line - 4);
            dueSides(alongColumns, line, line < 4 ? -line : -3, line < 4 ? 3 : line - 4);
        }
    }

    private static void dueSides(SwathSurvey x, int line, int least, int greatest) {
        Checks.due(greatest - least + 1, () -> x.soundings(line));
        for (int side = -5; side <= 5; side++) {
            int asked = side;
            Object want = side < least || side > greatest ? Checks.INDEX : side == 0 ? 30 : 20;
            Checks.due(want, () -> x.sounding(line, 0, asked));
        }
    }

    private static void theLeastAndTheMostSoundings() {
        SwathSurvey x = new SwathSurvey();
        x.setFloor(0, 0, 9);
        for (int column = 0; column < 20; column++) {
            x.setFloor(column, 6, 99);
        }
        x.run('r', 0, 0, 0, 0, 0);
        x.run('r', 6, 19, 0, 0, 1);
        Checks.due(1, () -> x.soundings(0));
        Checks.due(140, () -> x.soundings(1));
        Checks.due(20, () -> x.sounding(1, 19, 3));
        Checks.due(20, () -> x.sounding(1, 19, -3));
        Checks.due(Checks.INDEX, () -> x.sounding(1, 20, -3));
        Checks.due(Checks.INDEX, () -> x.sounding(1, 0, 4));
        Checks.due(Checks.INDEX, () -> x.sounding(1, 0, -4));
        Checks.due(Checks.INDEX, () -> x.sounding(0, 0, 1));
    }

    /** "A sounding is the depth of the floor ..., plus the water ..., plus an error, 0 at first." */
    private static void aSoundingIsTheFloorPlusTheWaterPlusAnError() {
        SwathSurvey x = new SwathSurvey();
        x.setFloor(19, 0, 99);
        x.setFloor(19, 1, 1);
        x.setSlope(0, 2);
        x.setSlope(1, -2);
        x.setWater(0, 0, 30);
        x.run('r', 0, 19, 19, 0, 0);
        x.run('r', 1, 19, 19, 1, 0);
        Checks.due(138, () -> x.sounding(0, 0, 0));
        Checks.due(0, () -> x.disturb(0, 0, 0, 60));
        Checks.due(198, () -> x.sounding(0, 0, 0));
        Checks.due(-9, () -> x.sounding(1, 0, 0));
        Checks.due(0, () -> x.disturb(1, 0, 0, -60));
        Checks.due(-69, () -> x.sounding(1, 0, 0));
    }

    /** "... the water in the column of the ship in this hour." */
    private static void theWaterIsThatInTheColumnOfTheShip() {
        SwathSurvey x = new SwathSurvey();
        x.setSlope(0, 2);
        x.run('c', 10, 5, 5, 0, 0);
        for (int side = -2; side <= 2; side++) {
            int asked = side;
            Checks.due(25, () -> x.sounding(0, 0, asked));
        }
        x.run('r', 5, 19, 0, 0, 1);
        Checks.due(29, () -> x.sounding(1, 0, 0));
        Checks.due(29, () -> x.sounding(1, 0, 2));
        Checks.due(20, () -> x.sounding(1, 19, 0));
    }

    /** "What is sounded is found by the floor and the water as they were when the line was run." */
    private static void theFloorAndTheWaterAreAsTheyWere() {
        SwathSurvey x = new SwathSurvey();
        x.run('r', 5, 0, 4, 0, 0);
        x.setFloor(0, 5, 9);
        x.setFloor(1, 5, 30);
        x.setFloor(2, 6, 77);
        x.setWater(0, 0, 30);
        x.setSlope(0, 2);
        Checks.due(25, () -> x.soundings(0));
        for (int slot = 0; slot < 25; slot++) {
            int cell = slot / 5;
            int side = slot % 5 - 2;
            Checks.due(20, () -> x.sounding(0, cell, side));
        }
        Checks.due(Checks.INDEX, () -> x.sounding(0, 1, 3));
        x.runAnew(0, 0, 0);
        Checks.due(23, () -> x.soundings(0));
        Checks.due(39, () -> x.sounding(0, 0, 0));
        Checks.due(Checks.INDEX, () -> x.sounding(0, 0, 1));
        Checks.due(50, () -> x.sounding(0, 1, 3));
        Checks.due(108, () -> x.sounding(0, 2, 1));
    }

    /** "error: the error, -60 to 60." */
    private static void errorsAreFromMinus60To60() {
        SwathSurvey x = new SwathSurvey();
        x.run('r', 5, 0, 4, 0, 0);
        Checks.due(0, () -> x.disturb(0, 4, 2, 60));
        Checks.due(Checks.ARGUMENT, () -> x.disturb(0, 4, 2, 61));
        Checks.due(80, () -> x.sounding(0, 4, 2));
        Checks.due(60, () -> x.disturb(0, 4, 2, -60));
        Checks.due(Checks.ARGUMENT, () -> x.disturb(0, 4, 2, -61));
        Checks.due(-40, () -> x.sounding(0, 4, 2));
        Checks.due(-60, () -> x.disturb(0, 4, 2, 0));
        Checks.due(20, () -> x.sounding(0, 4, 2));
        // There is no such sounding besides, and that is listed first.
        Checks.due(Checks.INDEX, () -> x.disturb(0, 5, 2, 61));
        Checks.due(Checks.INDEX, () -> x.disturb(0, 4, 3, -61));
        Checks.due(Checks.MISSING, () -> x.disturb(1, 5, 3, 61));
    }

    private static void anErrorTakesThePlaceOfTheOneBefore() {
        SwathSurvey x = new SwathSurvey();
        x.run('c', 5, 0, 11, 0, 0);
        x.run('c', 5, 0, 11, 1, 0);
        Checks.due(0, () -> x.disturb(0, 0, -2, 5));
        Checks.due(5, () -> x.disturb(0, 0, -2, 5));
        Checks.due(25, () -> x.sounding(0, 0, -2));
        Checks.due(5, () -> x.disturb(0, 0, -2, -1));
        Checks.due(19, () -> x.sounding(0, 0, -2));
        Checks.due(0, () -> x.disturb(0, 11, 2, 8));
        for (int slot = 0; slot < 60; slot++) {
            int cell = slot / 5;
            int side = slot % 5 - 2;
            Checks.due(slot == 0 ? 19 : slot == 59 ? 28 : 20, () -> x.sounding(0, cell, side));
            Checks.due(20, () -> x.sounding(1, cell, side));
        }
    }
}
