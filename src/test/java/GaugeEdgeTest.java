/** The boundary cases of gauges and tides, a test for each sentence (promises 7 to 11). */
final class GaugeEdgeTest {
    private GaugeEdgeTest() {
    }

    public static void main(String[] args) {
        atMost3GaugesStandInColumns();
        noTwoStandInTheSameColumn();
        gaugesStandInTheFirstAndTheLastColumn();
        anEndIsGreaterThanTheFirstHour();
        anEndIsUpTo24();
        hoursThatFailTwiceCountOnce();
        aGaugeFailsAloneAndOnOneDay();
        aGaugeFailsInNoHourOfADayThatIsMended();
        aGaugeTellsTheWaterInItsColumn();
        theHourBeforeIsOnThisDay();
        theHourBehindIsOnThisDay();
        bothHoursAreAtMost6Apart();
        theNearestHoursOfBothSidesCount();
        whatIsToldIsRoundedDown();
        whatIsToldMayBeBelow0();
        aGaugeInThisColumnTellsTheTide();
        aTideBetweenColumnsIsRoundedDown();
        theNearestGaugesOfBothSidesCount();
        onOneSideOnlyTheNearestTells();
        gaugesThatTellNothingAreLeftOut();
        columnsMayBeAnyNumberApart();
        withoutAGaugeTheTideIsNotKnown();
        Checks.end("GaugeEdgeTest");
    }

    private static void dueTides(SwathSurvey x, int[] want, int day, int hour) {
        for (int number = 0; number < 20; number++) {
            int column = number;
            Checks.due(want[column], () -> x.tide(column, day, hour));
        }
    }

    /** What gauge 0 tells on this day, from the first hour on. */
    private static void dueTold(SwathSurvey x, int day, int first, int... want) {
        for (int number = 0; number < want.length; number++) {
            int hour = first + number;
            Checks.due(want[number], () -> x.told(0, day, hour));
        }
    }

    /** "At most 3 gauges stand in columns." */
    private static void atMost3GaugesStandInColumns() {
        SwathSurvey x = new SwathSurvey();
        Checks.due(Checks.MISSING, () -> x.told(0, 0, 0));
        Checks.due(0, () -> x.addGauge(7));
        Checks.due(0, () -> x.told(0, 0, 0));
        Checks.due(Checks.MISSING, () -> x.told(1, 0, 0));
        Checks.due(1, () -> x.addGauge(3));
        Checks.due(2, () -> x.addGauge(12));
        Checks.due(0, () -> x.told(2, 0, 0));
        Checks.due(Checks.STATE, () -> x.addGauge(13));
        Checks.due(Checks.MISSING, () -> x.told(3, 0, 0));
        Checks.due(Checks.STATE, () -> x.addGauge(0));
    }

    /** "..., no two in the same one." */
    private static void noTwoStandInTheSameColumn() {
        SwathSurvey x = new SwathSurvey();
        Checks.due(0, () -> x.addGauge(7));
        Checks.due(Checks.UNSUPPORTED, () -> x.addGauge(7));
        Checks.due(1, () -> x.addGauge(8));
        Checks.due(Checks.UNSUPPORTED, () -> x.addGauge(7));
        Checks.due(Checks.UNSUPPORTED, () -> x.addGauge(8));
        Checks.due(2, () -> x.addGauge(6));
        // There are 3 gauges too, but that a gauge stands there is listed first.
        Checks.due(Checks.UNSUPPORTED, () -> x.addGauge(6));
        Checks.due(Checks.STATE, () -> x.addGauge(5));
    }

    private static void gaugesStandInTheFirstAndTheLastColumn() {
        SwathSurvey x = new SwathSurvey();
        Checks.due(Checks.INDEX, () -> x.addGauge(-1));
        Checks.due(Checks.INDEX, () -> x.addGauge(20));
        Checks.due(0, () -> x.addGauge(19));
        Checks.due(1, () -> x.addGauge(0));
        x.setSlope(0, 2);
        Checks.due(9, () -> x.told(0, 0, 0));
        Checks.due(0, () -> x.told(1, 0, 0));
    }

    /** "... if the end is not greater than the first hour, or greater than 24." */
    private static void anEndIsGreaterThanTheFirstHour() {
        SwathSurvey x = new SwathSurvey();
        x.addGauge(0);
        Checks.due(Checks.ARGUMENT, () -> x.fail(0, 0, 12, 11));
        Checks.due(Checks.ARGUMENT, () -> x.fail(0, 0, 12, 12));
        Checks.due(23, () -> x.fail(0, 0, 12, 13));
        Checks.due(Checks.ARGUMENT, () -> x.fail(0, 1, 0, 0));
        Checks.due(23, () -> x.fail(0, 1, 0, 1));
        Checks.due(Checks.ARGUMENT, () -> x.fail(0, 2, 23, 23));
        Checks.due(23, () -> x.fail(0, 2, 23, 24));
    }

    /** "end: the hour behind the last one, up to 24." */
    private static void anEndIsUpTo24() {
        SwathSurvey x = new SwathSurvey();
        x.addGauge(0);
        Checks.due(Checks.ARGUMENT, () -> x.fail(0, 0, 22, 25));
        Checks.due(Checks.ARGUMENT, () -> x.fail(0, 0, 23, 25));
        Checks.due(Checks.INDEX, () -> x.fail(0, 0, 24, 25));
        Checks.due(Checks.INDEX, () -> x.fail(0, 0, 24, 24));
        Checks.due(22, () -> x.fail(0, 0, 22, 24));
        Checks.due(0, () -> x.fail(0, 9, 0, 24));
        Checks.due(24, () -> x.mend(0, 9));
    }

    private static void hoursThatFailTwiceCountOnce() {
        SwathSurvey x = new SwathSurvey();
        x.addGauge(0);
        Checks.due(20, () -> x.fail(0, 5, 10, 14));
        Checks.due(20, () -> x.fail(0, 5, 10, 14));
        Checks.due(20, () -> x.fail(0, 5, 11, 13));
        Checks.due(19, () -> x.fail(0, 5, 9, 12));
        Checks.due(17, () -> x.fail(0, 5, 13, 16));
        Checks.due(16, () -> x.fail(0, 5, 20, 21));
        Checks.due(8, () -> x.mend(0, 5));
    }

    /** "A gauge can fail in hours of a day." */
    private static void aGaugeFailsAloneAndOnOneDay() {
        SwathSurvey x = new SwathSurvey();
        x.addGauge(4);
        x.addGauge(5);
        x.addGauge(6);
        x.fail(1, 5, 0, 24);
        Checks.due(Checks.UNSUPPORTED, () -> x.told(1, 5, 0));
        Checks.due(Checks.UNSUPPORTED, () -> x.told(1, 5, 23));
        Checks.due(0, () -> x.told(1, 4, 23));
        Checks.due(0, () -> x.told(1, 6, 0));
        Checks.due(0, () -> x.told(0, 5, 0));
        Checks.due(0, () -> x.told(2, 5, 23));
        Checks.due(0, () -> x.mend(0, 5));
        Checks.due(0, () -> x.mend(2, 5));
        Checks.due(0, () -> x.mend(1, 4));
        Checks.due(0, () -> x.mend(1, 6));
        Checks.due(24, () -> x.mend(1, 5));
    }

    /** "Lets a gauge have failed in no hour of a day." */
    private static void aGaugeFailsInNoHourOfADayThatIsMended() {
        SwathSurvey x = new SwathSurvey();
        x.addGauge(4);
        Checks.due(0, () -> x.mend(0, 0));
        Checks.due(0, () -> x.mend(0, 9));
        Checks.due(Checks.INDEX, () -> x.mend(0, 10));
        Checks.due(Checks.INDEX, () -> x.mend(0, -1));
        Checks.due(Checks.MISSING, () -> x.mend(1, 0));
        x.fail(0, 9, 0, 1);
        x.fail(0, 9, 23, 24);
        x.fail(0, 0, 0, 24);
        Checks.due(2, () -> x.mend(0, 9));
        Checks.due(0, () -> x.mend(0, 9));
        Checks.due(0, () -> x.told(0, 9, 0));
        Checks.due(0, () -> x.told(0, 9, 23));
        Checks.due(24, () -> x.mend(0, 0));
        Checks.due(0, () -> x.told(0, 0, 12));
    }

    /** "In an hour in which it did not fail, a gauge tells the water in its column." */
    private static void aGaugeTellsTheWaterInItsColumn() {
        SwathSurvey x = new SwathSurvey();
        x.addGauge(19);
        x.addGauge(1);
        x.setSlope(9, -2);
        x.setWater(9, 23, 30);
        Checks.due(20, () -> x.told(0, 9, 23));
        Checks.due(29, () -> x.told(1, 9, 23));
        Checks.due(-10, () -> x.told(0, 9, 22));
        Checks.due(-1, () -> x.told(1, 9, 0));
        x.setWater(9, 23, 0);
        Checks.due(-10, () -> x.told(0, 9, 23));
    }

    /** "... the last hour before it and the first hour behind it, on this day, in which it did not fail." */
    private static void theHourBeforeIsOnThisDay() {
        SwathSurvey x = new SwathSurvey();
        x.addGauge(4);
        x.setWater(4, 23, 9);
        x.setWater(5, 2, 9);
        x.fail(0, 5, 0, 2);
        Checks.due(9, () -> x.told(0, 4, 23));
        Checks.due(Checks.UNSUPPORTED, () -> x.told(0, 5, 0));
        Checks.due(Checks.UNSUPPORTED, () -> x.told(0, 5, 1));
        Checks.due(9, () -> x.told(0, 5, 2));
        x.fail(0, 0, 0, 1);
        Checks.due(Checks.UNSUPPORTED, () -> x.told(0, 0, 0));
        // From the hour 0 on there is one before.
        x.fail(0, 6, 1, 2);
        Checks.due(0, () -> x.told(0, 6, 1));
    }

    private static void theHourBehindIsOnThisDay() {
        SwathSurvey x = new SwathSurvey();
        x.addGauge(4);
        x.setWater(4, 21, 9);
        x.setWater(5, 0, 9);
        x.fail(0, 4, 22, 24);
        Checks.due(9, () -> x.told(0, 5, 0));
        Checks.due(Checks.UNSUPPORTED, () -> x.told(0, 4, 23));
        Checks.due(Checks.UNSUPPORTED, () -> x.told(0, 4, 22));
        Checks.due(9, () -> x.told(0, 4, 21));
        x.fail(0, 9, 23, 24);
        Checks.due(Checks.UNSUPPORTED, () -> x.told(0, 9, 23));
        // Up to the hour 23 there is one behind.
        x.fail(0, 6, 22, 23);
        Checks.due(0, () -> x.told(0, 6, 22));
    }

    /** "... if there are both, and the later one minus the earlier one is at most 6." */
    private static void bothHoursAreAtMost6Apart() {
        SwathSurvey x = new SwathSurvey();
        x.addGauge(4);
        for (int first : new int[] {1, 10, 18}) {
            int day = first / 5;
            Checks.due(19, () -> x.fail(0, day, first, first + 5));
            dueTold(x, day, first - 1, 0, 0, 0, 0, 0, 0, 0);
        }
        x.fail(0, 5, 1, 7);
        x.fail(0, 6, 10, 16);
        x.fail(0, 7, 17, 23);
        for (int number = 0; number < 6; number++) {
            int behind = number;
            Checks.due(Checks.UNSUPPORTED, () -> x.told(0, 5, 1 + behind));
            Checks.due(Checks.UNSUPPORTED, () -> x.told(0, 6, 10 + behind));
            Checks.due(Checks.UNSUPPORTED, () -> x.told(0, 7, 17 + behind));
        }
        Checks.due(0, () -> x.told(0, 5, 7));
        Checks.due(0, () -> x.told(0, 6, 9));
        Checks.due(0, () -> x.told(0, 7, 23));
        x.fail(0, 8, 12, 13);
        Checks.due(0, () -> x.told(0, 8, 12));
    }

    private static void theNearestHoursOfBothSidesCount() {
        SwathSurvey x = new SwathSurvey();
        x.addGauge(0);
        int[] heights = {30, 30, 4, 30, 30, 10, 30, 30};
        for (int hour = 0; hour < heights.length; hour++) {
            x.setWater(2, hour, heights[hour]);
        }
        x.fail(0, 2, 3, 5);
        x.fail(0, 2, 6, 7);
        // Of the hours 2 and 5: 4, 6, 8, 10; of 5 and 7: 10, 20, 30.
        dueTold(x, 2, 0, 30, 30, 4, 6, 8, 10, 20, 30);
        x.fail(0, 2, 5, 6);
        // Of the hours 2 and 7: 26 in 5 hours.
        dueTold(x, 2, 2, 4, 9, 14, 19, 24, 30);
    }

    /** "... the difference times the hours since then, divided by the hours between both, rounded down." */
    private static void whatIsToldIsRoundedDown() {
        SwathSurvey x = new SwathSurvey();
        x.addGauge(0);
        x.setWater(0, 10, 0);
        x.setWater(0, 16, 5);
        x.setWater(1, 10, 5);
        x.setWater(1, 16, 0);
        x.setWater(2, 10, 6);
        x.setWater(2, 16, 0);
        x.setWater(3, 10, 30);
        x.setWater(3, 14, 29);
        x.setWater(4, 10, 0);
        x.setWater(4, 12, 1);
        x.setWater(5, 10, 1);
        x.setWater(5, 12, 0);
        x.setWater(6, 10, 30);
        x.setWater(6, 15, 0);
        for (int day = 0; day <= 2; day++) {
            x.fail(0, day, 11, 16);
        }
        x.fail(0, 3, 11, 14);
        x.fail(0, 4, 11, 12);
        x.fail(0, 5, 11, 12);
        x.fail(0, 6, 11, 15);
        dueTold(x, 0, 10, 0, 0, 1, 2, 3, 4, 5);
        dueTold(x, 1, 10, 5, 4, 3, 2, 1, 0, 0);
        dueTold(x, 2, 10, 6, 5, 4, 3, 2, 1, 0);
        dueTold(x, 3, 10, 30, 29, 29, 29, 29);
        dueTold(x, 4, 10, 0, 0, 1);
        dueTold(x, 5, 10, 1, 0, 0);
        dueTold(x, 6, 10, 30, 24, 18, 12, 6, 0);
    }

    private static void whatIsToldMayBeBelow0() {
        SwathSurvey x = new SwathSurvey();
        x.addGauge(19);
        x.setSlope(0, -2);
        x.setWater(0, 6, 7);
        x.fail(0, 0, 3, 6);
        x.fail(0, 0, 7, 9);
        // From -10 in the hour 2 to -3 in the hour 6, and back to -10 in the hour 9.
        dueTold(x, 0, 2, -10, -9, -7, -5, -3, -6, -8, -10);
    }

    /** "... if one stands in this column, what it tells." */
    private static void aGaugeInThisColumnTellsTheTide() {
        SwathSurvey x = new SwathSurvey();
        x.setSlope(0, 2);
        x.addGauge(0);
        x.addGauge(9);
        x.addGauge(19);
        Checks.due(0, () -> x.tide(0, 0, 0));
        Checks.due(4, () -> x.tide(9, 0, 0));
        Checks.due(9, () -> x.tide(19, 0, 0));
        // It failed in this hour, but it tells something: 4 in the hours 3 and 5, while the others tell more.
        x.fail(1, 0, 4, 5);
        x.setWater(0, 4, 20);
        Checks.due(4, () -> x.tide(9, 0, 4));
        Checks.due(20, () -> x.tide(0, 0, 4));
        Checks.due(29, () -> x.tide(19, 0, 4));
    }

    /** "... between the nearest ones of both, in the same way by columns as by hours." */
    private static void aTideBetweenColumnsIsRoundedDown() {
        SwathSurvey x = new SwathSurvey();
        x.setSlope(0, 2);
        x.setSlope(1, -2);
        x.setSlope(2, 1);
        x.addGauge(19);
        x.addGauge(0);
        // 9 times the column divided by 19; with the slope -2, -10 times the column divided by 19.
        dueTides(x, new int[] {0, 0, 0, 1, 1, 2, 2, 3, 3, 4, 4, 5, 5, 6, 6, 7, 7, 8, 8, 9}, 0, 0);
        dueTides(x, new int[] {0, -1, -2, -2, -3, -3, -4, -4, -5, -5, -6, -6, -7, -7, -8, -8, -9, -9, -10, -10}, 1, 0);
        // 4 times the column divided by 19.
        dueTides(x, new int[] {0, 0, 0, 0, 0, 1, 1, 1, 1, 1, 2, 2, 2, 2, 2, 3, 3, 3, 3, 4}, 2, 23);
        dueTides(x, new int[20], 3, 0);
    }

    private static void theNearestGaugesOfBothSidesCount() {
        SwathSurvey x = new SwathSurvey();
        x.addGauge(10);
        x.addGauge(2);
        x.addGauge(6);
        // In the hour 5 they tell 20, then 0 between hours of 0, and 8 half the way up to 16.
        x.setWater(0, 5, 20);
        x.fail(1, 0, 5, 6);
        x.setWater(0, 3, 0);
        x.setWater(0, 4, 0);
        x.fail(2, 0, 4, 7);
        x.setWater(0, 7, 16);
        dueTides(x, new int[] {0, 0, 0, 2, 4, 6, 8, 11, 14, 17, 20, 20, 20, 20, 20, 20, 20, 20, 20, 20}, 0, 5);
    }

    /** "... if there are some on one side only, what the nearest one tells." */
    private static void onOneSideOnlyTheNearestTells() {
        SwathSurvey x = new SwathSurvey();
        x.setSlope(0, 2);
        x.addGauge(8);
        x.addGauge(10);
        Checks.due(4, () -> x.tide(0, 0, 0));
        Checks.due(4, () -> x.tide(7, 0, 0));
        Checks.due(4, () -> x.tide(9, 0, 0));
        Checks.due(5, () -> x.tide(11, 0, 0));
        Checks.due(5, () -> x.tide(19, 0, 0));
        x.addGauge(12);
        Checks.due(4, () -> x.tide(0, 0, 0));
        Checks.due(6, () -> x.tide(13, 0, 0));
        Checks.due(6, () -> x.tide(19, 0, 0));
        Checks.due(5, () -> x.tide(11, 0, 0));
    }

    /** "... the gauges that tell something in it, the others left out." */
    private static void gaugesThatTellNothingAreLeftOut() {
        SwathSurvey x = new SwathSurvey();
        x.setSlope(0, 2);
        x.addGauge(4);
        x.addGauge(10);
        x.addGauge(16);
        Checks.due(5, () -> x.tide(10, 0, 3));
        x.fail(1, 0, 0, 24);
        // Of 2 in column 4 and 8 in column 16: 2 + 6 * 7 / 12 in column 11.
        Checks.due(5, () -> x.tide(10, 0, 3));
        Checks.due(5, () -> x.tide(11, 0, 3));
        x.fail(2, 0, 3, 10);
        Checks.due(2, () -> x.tide(11, 0, 3));
        Checks.due(2, () -> x.tide(19, 0, 9));
        Checks.due(8, () -> x.tide(19, 0, 10));
        Checks.due(8, () -> x.tide(19, 0, 2));
        x.fail(0, 0, 0, 24);
        Checks.due(Checks.UNSUPPORTED, () -> x.tide(11, 0, 3));
        Checks.due(Checks.UNSUPPORTED, () -> x.tide(4, 0, 3));
        Checks.due(8, () -> x.tide(0, 0, 2));
        x.mend(1, 0);
        Checks.due(5, () -> x.tide(0, 0, 3));
        Checks.due(5, () -> x.tide(19, 0, 3));
    }

    /** The limit of 6 is one for hours; the document names none for columns. */
    private static void columnsMayBeAnyNumberApart() {
        SwathSurvey x = new SwathSurvey();
        x.setSlope(0, 1);
        x.addGauge(0);
        x.addGauge(7);
        Checks.due(0, () -> x.tide(6, 0, 0));
        x.setSlope(0, 2);
        Checks.due(2, () -> x.tide(6, 0, 0));
        x.addGauge(19);
        // Of 3 in column 7 and 9 in column 19.
        Checks.due(6, () -> x.tide(13, 0, 0));
    }

    /** "If no gauge tells anything, the tide is not known." */
    private static void withoutAGaugeTheTideIsNotKnown() {
        SwathSurvey x = new SwathSurvey();
        x.setWater(0, 0, 5);
        Checks.due(Checks.UNSUPPORTED, () -> x.tide(0, 0, 0));
        Checks.due(Checks.UNSUPPORTED, () -> x.tide(19, 9, 23));
        x.addGauge(19);
        Checks.due(5, () -> x.tide(0, 0, 0));
        Checks.due(0, () -> x.tide(19, 9, 23));
        Checks.due(Checks.INDEX, () -> x.tide(20, 9, 23));
        Checks.due(Checks.INDEX, () -> x.tide(19, 10, 23));
        Checks.due(Checks.INDEX, () -> x.tide(19, 9, 24));
        x.fail(0, 9, 23, 24);
        Checks.due(Checks.UNSUPPORTED, () -> x.tide(19, 9, 23));
        x.mend(0, 9);
        Checks.due(0, () -> x.tide(19, 9, 23));
    }
}
