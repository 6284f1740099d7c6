/** The boundary cases of the chart, the water and the weather, a test for each sentence (promises 1 to 6). */
final class SeaEdgeTest {
    /** The slope times the column, divided by 4 and rounded down, for the slopes 1 and -1 and the columns 0 to 19. */
    private static final int[] GENTLE = {0, 0, 0, 0, 1, 1, 1, 1, 2, 2, 2, 2, 3, 3, 3, 3, 4, 4, 4, 4};
    private static final int[] GENTLE_DOWN =
        {0, -1, -1, -1, -1, -2, -2, -2, -2, -3, -3, -3, -3, -4, -4, -4, -4, -5, -5, -5};
    /** For the slopes 2 and -2. */
    private static final int[] STEEP = {0, 0, 1, 1, 2, 2, 3, 3, 4, 4, 5, 5, 6, 6, 7, 7, 8, 8, 9, 9};
    private static final int[] STEEP_DOWN =
        {0, -1, -1, -2, -2, -3, -3, -4, -4, -5, -5, -6, -6, -7, -7, -8, -8, -9, -9, -10};

    private SeaEdgeTest() {
    }

    public static void main(String[] args) {
        aNewSurveyHasNoGauges();
        aNewSurveyHasNoLines();
        aNewSurveyHasNoDepths();
        theChartHas20ColumnsAnd12Rows();
        theFloorIs20AtFirst();
        theFloorIsFrom1To99();
        eachCellHasAFloorOfItsOwn();
        thereAreTheDays0To9WithTheHours0To23();
        theWaterIs0AtFirst();
        theWaterIsFrom0To30();
        eachHourHasAWaterOfItsOwn();
        theSlopeIs0AtFirst();
        theSlopeIsFromMinus2To2();
        aPartForTheColumnIsRoundedDown();
        theWaterMayComeBelow0();
        theWeatherWas0();
        theWeatherIsFrom0To9();
        twoSurveysDoNotShareASea();
        Checks.end("SeaEdgeTest");
    }

    /** "Creates a survey without gauges and lines." */
    private static void aNewSurveyHasNoGauges() {
        SwathSurvey x = new SwathSurvey();
        Checks.due(Checks.MISSING, () -> x.told(0, 0, 0));
        Checks.due(Checks.MISSING, () -> x.mend(0, 0));
        Checks.due(Checks.MISSING, () -> x.fail(0, 0, 0, 1));
        Checks.due(Checks.UNSUPPORTED, () -> x.tide(0, 0, 0));
        Checks.due(Checks.UNSUPPORTED, () -> x.tide(19, 9, 23));
        Checks.due(0, () -> x.addGauge(0));
    }

    private static void aNewSurveyHasNoLines() {
        SwathSurvey x = new SwathSurvey();
        Checks.due(0, x::lines);
        Checks.due(0, x::toRun);
        Checks.due(0L, x::hire);
        Checks.due(Checks.UNSUPPORTED, x::worstCross);
        for (int number = 0; number < 16; number++) {
            int line = number;
            Checks.due(Checks.MISSING, () -> x.dayOf(line));
            Checks.due(Checks.MISSING, () -> x.runAnew(line, 0, 0));
            Checks.due(Checks.MISSING, () -> x.soundings(line));
            Checks.due(Checks.MISSING, () -> x.writeLine(line));
        }
        for (int number = 0; number < 10; number++) {
            int day = number;
            Checks.due(0, () -> x.hours(day));
        }
        Checks.due(0, () -> x.run('r', 0, 0, 0, 0, 0));
    }

    private static void aNewSurveyHasNoDepths() {
        SwathSurvey x = new SwathSurvey();
        Checks.due(0, x::charted);
        Checks.due(0.0f, x::chartedShare);
        Checks.due(Checks.ARITHMETIC, x::meanDepth);
        Checks.due(true, x::isSure);
        for (int number = 0; number < 240; number++) {
            int column = number % 20;
            int row = number / 20;
            Checks.due(Checks.UNSUPPORTED, () -> x.depth(column, row));
            Checks.due(100 * row + column, () -> x.gap(row * 20 + column));
        }
        Checks.due(Checks.MISSING, () -> x.gap(240));
    }

    /** "The chart has 20 columns and 12 rows of cells, numbered from 0 each." */
    private static void theChartHas20ColumnsAnd12Rows() {
        SwathSurvey x = new SwathSurvey();
        for (int column : new int[] {0, 19}) {
            for (int row : new int[] {0, 11}) {
                Checks.due(20, () -> x.setFloor(column, row, 30));
                Checks.due(30, () -> x.setFloor(column, row, 20));
            }
        }
        Checks.due(Checks.INDEX, () -> x.setFloor(-1, 0, 30));
        Checks.due(Checks.INDEX, () -> x.setFloor(20, 0, 30));
        Checks.due(Checks.INDEX, () -> x.setFloor(0, -1, 30));
        Checks.due(Checks.INDEX, () -> x.setFloor(0, 12, 30));
        // With 20 cells in a row, each of these would be another cell by its number alone.
        Checks.due(Checks.INDEX, () -> x.setFloor(-1, 1, 30));
        Checks.due(Checks.INDEX, () -> x.setFloor(20, 10, 30));
        Checks.due(Checks.INDEX, () -> x.setFloor(25, -1, 30));
    }

    /** "The floor has a depth in each cell, from 1 to 99, 20 at first." */
    private static void theFloorIs20AtFirst() {
        SwathSurvey x = new SwathSurvey();
        for (int number = 0; number < 240; number++) {
            int column = number % 20;
            int row = number / 20;
            Checks.due(20, () -> x.setFloor(column, row, 20));
        }
    }

    private static void theFloorIsFrom1To99() {
        SwathSurvey x = new SwathSurvey();
        Checks.due(20, () -> x.setFloor(3, 3, 1));
        Checks.due(Checks.ARGUMENT, () -> x.setFloor(3, 3, 0));
        Checks.due(1, () -> x.setFloor(3, 3, 99));
        Checks.due(Checks.ARGUMENT, () -> x.setFloor(3, 3, 100));
        Checks.due(99, () -> x.setFloor(3, 3, 99));
        Checks.due(99, () -> x.setFloor(3, 3, 2));
        Checks.due(Checks.ARGUMENT, () -> x.setFloor(3, 3, -2));
        Checks.due(2, () -> x.setFloor(3, 3, 98));
        Checks.due(98, () -> x.setFloor(3, 3, 20));
    }

    private static void eachCellHasAFloorOfItsOwn() {
        SwathSurvey x = new SwathSurvey();
        for (int number = 0; number < 240; number++) {
            x.setFloor(number % 20, number / 20, 1 + number % 97);
        }
        for (int number = 0; number < 240; number++) {
            int asked = number;
            Checks.due(1 + number % 97, () -> x.setFloor(asked % 20, asked / 20, 50));
        }
    }

    /** "There are the days 0 to 9 with the hours 0 to 23." */
    private static void thereAreTheDays0To9WithTheHours0To23() {
        SwathSurvey x = new SwathSurvey();
        for (int day : new int[] {0, 9}) {
            for (int hour : new int[] {0, 23}) {
                Checks.due(0, () -> x.setWater(day, hour, 5));
                Checks.due(5, () -> x.waterAt(0, day, hour));
                Checks.due(5, () -> x.waterAt(19, day, hour));
            }
            Checks.due(0, () -> x.setSlope(day, 1));
            Checks.due(0, () -> x.setWeather(day, 1));
        }
        for (int day : new int[] {-1, 10}) {
            Checks.due(Checks.INDEX, () -> x.setWater(day, 0, 5));
            Checks.due(Checks.INDEX, () -> x.waterAt(0, day, 0));
            Checks.due(Checks.INDEX, () -> x.setSlope(day, 1));
            Checks.due(Checks.INDEX, () -> x.setWeather(day, 1));
        }
        // With 24 hours in a day, each of these would be another hour by its number alone.
        Checks.due(Checks.INDEX, () -> x.setWater(1, -1, 5));
        Checks.due(Checks.INDEX, () -> x.setWater(8, 24, 5));
        Checks.due(Checks.INDEX, () -> x.waterAt(0, 1, -1));
        Checks.due(Checks.INDEX, () -> x.waterAt(0, 8, 24));
        Checks.due(Checks.INDEX, () -> x.waterAt(-1, 0, 0));
        Checks.due(Checks.INDEX, () -> x.waterAt(20, 0, 0));
    }

    /** "The water has a height in each hour of each day, 0 to 30, 0 at first, and a slope on each day." */
    private static void theWaterIs0AtFirst() {
        SwathSurvey x = new SwathSurvey();
        for (int number = 0; number < 240; number++) {
            int day = number / 24;
            int hour = number % 24;
            Checks.due(0, () -> x.waterAt(number(day), day, hour));
            Checks.due(0, () -> x.setWater(day, hour, 0));
        }
    }

    /** A column that is another one on each day. */
    private static int number(int day) {
        return 19 - 2 * day;
    }

    private static void theWaterIsFrom0To30() {
        SwathSurvey x = new SwathSurvey();
        Checks.due(0, () -> x.setWater(4, 4, 30));
        Checks.due(Checks.ARGUMENT, () -> x.setWater(4, 4, 31));
        Checks.due(30, () -> x.waterAt(7, 4, 4));
        Checks.due(30, () -> x.setWater(4, 4, 1));
        Checks.due(Checks.ARGUMENT, () -> x.setWater(4, 4, -1));
        Checks.due(1, () -> x.setWater(4, 4, 0));
        Checks.due(0, () -> x.setWater(4, 4, 29));
        Checks.due(29, () -> x.waterAt(7, 4, 4));
    }

    private static void eachHourHasAWaterOfItsOwn() {
        SwathSurvey x = new SwathSurvey();
        for (int number = 0; number < 240; number++) {
            x.setWater(number / 24, number % 24, number % 31);
        }
        for (int number = 0; number < 240; number++) {
            int asked = number;
            Checks.due(number % 31, () -> x.waterAt(asked % 20, asked / 24, asked % 24));
        }
    }

    /** "... a slope on each day, -2 to 2, 0 at first." */
    private static void theSlopeIs0AtFirst() {
        SwathSurvey x = new SwathSurvey();
        for (int number = 0; number < 10; number++) {
            int day = number;
            Checks.due(0, () -> x.waterAt(19, day, 12));
            Checks.due(0, () -> x.setSlope(day, day % 5 - 2));
        }
        for (int number = 0; number < 10; number++) {
            int day = number;
            Checks.due(number % 5 - 2, () -> x.setSlope(day, 0));
        }
    }

    private static void theSlopeIsFromMinus2To2() {
        SwathSurvey x = new SwathSurvey();
        Checks.due(0, () -> x.setSlope(4, 2));
        Checks.due(Checks.ARGUMENT, () -> x.setSlope(4, 3));
        Checks.due(2, () -> x.setSlope(4, -2));
        Checks.due(Checks.ARGUMENT, () -> x.setSlope(4, -3));
        Checks.due(-2, () -> x.setSlope(4, 1));
        Checks.due(1, () -> x.setSlope(4, -1));
        Checks.due(-1, () -> x.setSlope(4, 0));
    }

    /** "... the slope times the column, divided by 4 and rounded down, to the lower number also below 0." */
    private static void aPartForTheColumnIsRoundedDown() {
        SwathSurvey x = new SwathSurvey();
        x.setSlope(0, 1);
        x.setSlope(1, -1);
        x.setSlope(2, 2);
        x.setSlope(3, -2);
        x.setWater(0, 23, 30);
        x.setWater(3, 0, 10);
        for (int number = 0; number < 20; number++) {
            int column = number;
            Checks.due(GENTLE[column], () -> x.waterAt(column, 0, 0));
            Checks.due(30 + GENTLE[column], () -> x.waterAt(column, 0, 23));
            Checks.due(GENTLE_DOWN[column], () -> x.waterAt(column, 1, 5));
            Checks.due(STEEP[column], () -> x.waterAt(column, 2, 5));
            Checks.due(STEEP_DOWN[column], () -> x.waterAt(column, 3, 23));
            Checks.due(10 + STEEP_DOWN[column], () -> x.waterAt(column, 3, 0));
            Checks.due(0, () -> x.waterAt(column, 4, 0));
        }
    }

    private static void theWaterMayComeBelow0() {
        SwathSurvey x = new SwathSurvey();
        x.setSlope(9, -2);
        Checks.due(-10, () -> x.waterAt(19, 9, 23));
        Checks.due(-1, () -> x.waterAt(1, 9, 23));
        Checks.due(0, () -> x.waterAt(0, 9, 23));
        x.setWater(9, 23, 30);
        x.setSlope(9, 2);
        Checks.due(39, () -> x.waterAt(19, 9, 23));
    }

    /** "Sets the weather of a day, which was 0." */
    private static void theWeatherWas0() {
        SwathSurvey x = new SwathSurvey();
        for (int number = 0; number < 10; number++) {
            int day = number;
            Checks.due(0, () -> x.setWeather(day, day));
        }
        for (int number = 0; number < 10; number++) {
            int day = number;
            Checks.due(day, () -> x.setWeather(day, 0));
        }
    }

    /** "force: the weather, 0 to 9." */
    private static void theWeatherIsFrom0To9() {
        SwathSurvey x = new SwathSurvey();
        Checks.due(0, () -> x.setWeather(4, 9));
        Checks.due(Checks.ARGUMENT, () -> x.setWeather(4, 10));
        Checks.due(9, () -> x.setWeather(4, 1));
        Checks.due(Checks.ARGUMENT, () -> x.setWeather(4, -1));
        Checks.due(1, () -> x.setWeather(4, 0));
        Checks.due(0, () -> x.setWeather(4, 8));
        Checks.due(8, () -> x.setWeather(4, 8));
    }

    private static void twoSurveysDoNotShareASea() {
        SwathSurvey x = new SwathSurvey();
        SwathSurvey y = new SwathSurvey();
        x.setFloor(0, 0, 99);
        x.setWater(0, 0, 30);
        x.setSlope(0, 2);
        x.setWeather(0, 9);
        x.addGauge(0);
        Checks.due(20, () -> y.setFloor(0, 0, 1));
        Checks.due(0, () -> y.setWater(0, 0, 1));
        Checks.due(0, () -> y.setSlope(0, 1));
        Checks.due(0, () -> y.setWeather(0, 1));
        Checks.due(Checks.MISSING, () -> y.told(0, 0, 0));
    }
}
