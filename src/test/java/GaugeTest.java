/** Promises 7 to 11: gauges, their failures, what they tell, and the tides. */
final class GaugeTest {
    private GaugeTest() {
    }

    public static void main(String[] args) {
        adding();
        failing();
        mending();
        telling();
        fallingWaterRoundsDown();
        tides();
        tidesLeaveSilentGaugesOut();
        Checks.end("GaugeTest");
    }

    private static void adding() {
        SwathSurvey x = new SwathSurvey();
        Checks.due(Checks.INDEX, () -> x.addGauge(-1));
        Checks.due(Checks.INDEX, () -> x.addGauge(20));
        Checks.due(0, () -> x.addGauge(19));
        Checks.due(Checks.UNSUPPORTED, () -> x.addGauge(19));
        Checks.due(1, () -> x.addGauge(0));
        Checks.due(2, () -> x.addGauge(7));
        Checks.due(Checks.UNSUPPORTED, () -> x.addGauge(7));
        Checks.due(Checks.STATE, () -> x.addGauge(8));
        Checks.due(Checks.INDEX, () -> x.addGauge(Integer.MAX_VALUE));
    }

    private static void failing() {
        SwathSurvey x = new SwathSurvey();
        Checks.due(Checks.MISSING, () -> x.fail(0, 10, 24, 0));
        x.addGauge(3);
        Checks.due(23, () -> x.fail(0, 2, 23, 24));
        Checks.due(21, () -> x.fail(0, 2, 4, 6));
        Checks.due(20, () -> x.fail(0, 2, 5, 7));
        Checks.due(20, () -> x.fail(0, 2, 4, 7));
        Checks.due(0, () -> x.fail(0, 3, 0, 24));
        Checks.due(23, () -> x.fail(0, 4, 0, 1));
        Checks.due(Checks.MISSING, () -> x.fail(1, 0, 0, 1));
        Checks.due(Checks.MISSING, () -> x.fail(-1, 0, 0, 1));
        Checks.due(Checks.INDEX, () -> x.fail(0, 10, 0, 1));
        Checks.due(Checks.INDEX, () -> x.fail(0, -1, 0, 1));
        Checks.due(Checks.INDEX, () -> x.fail(0, 0, 24, 25));
        Checks.due(Checks.INDEX, () -> x.fail(0, 0, -1, 3));
        Checks.due(Checks.ARGUMENT, () -> x.fail(0, 0, 3, 3));
        Checks.due(Checks.ARGUMENT, () -> x.fail(0, 0, 3, 2));
        Checks.due(Checks.ARGUMENT, () -> x.fail(0, 0, 3, 25));
        Checks.due(Checks.ARGUMENT, () -> x.fail(0, 0, 3, Integer.MAX_VALUE));
        Checks.due(23, () -> x.fail(0, 0, 3, 4));
    }

    private static void mending() {
        SwathSurvey x = new SwathSurvey();
        Checks.due(Checks.MISSING, () -> x.mend(0, 10));
        x.addGauge(3);
        x.addGauge(4);
        x.fail(0, 2, 4, 9);
        x.fail(0, 3, 0, 24);
        x.fail(1, 2, 0, 2);
        Checks.due(0, () -> x.mend(0, 1));
        Checks.due(5, () -> x.mend(0, 2));
        Checks.due(0, () -> x.mend(0, 2));
        Checks.due(2, () -> x.mend(1, 2));
        Checks.due(24, () -> x.mend(0, 3));
        Checks.due(23, () -> x.fail(0, 3, 7, 8));
        Checks.due(Checks.MISSING, () -> x.mend(2, 0));
        Checks.due(Checks.MISSING, () -> x.mend(-1, 0));
        Checks.due(Checks.INDEX, () -> x.mend(0, 10));
        Checks.due(Checks.INDEX, () -> x.mend(0, -1));
    }

    private static void telling() {
        SwathSurvey x = new SwathSurvey();
        Checks.due(Checks.MISSING, () -> x.told(0, 10, 0));
        x.addGauge(5);
        x.setSlope(1, 1);
        x.setWater(1, 4, 10);
        x.setWater(1, 10, 20);
        Checks.due(11, () -> x.told(0, 1, 4));
        Checks.due(1, () -> x.told(0, 1, 5));
        x.fail(0, 1, 5, 10);
        int[] want = {11, 12, 14, 16, 17, 19, 21};
        for (int hour = 4; hour <= 10; hour++) {
            int asked = hour;
            Checks.due(want[hour - 4], () -> x.told(0, 1, asked));
        }
        x.fail(0, 1, 10, 11);
        for (int hour = 5; hour <= 10; hour++) {
            int asked = hour;
            Checks.due(Checks.UNSUPPORTED, () -> x.told(0, 1, asked));
        }
        Checks.due(1, () -> x.told(0, 1, 11));
        x.fail(0, 2, 0, 2);
        Checks.due(Checks.UNSUPPORTED, () -> x.told(0, 2, 0));
        Checks.due(Checks.UNSUPPORTED, () -> x.told(0, 2, 1));
        Checks.due(0, () -> x.told(0, 2, 2));
        x.fail(0, 2, 22, 24);
        Checks.due(Checks.UNSUPPORTED, () -> x.told(0, 2, 22));
        Checks.due(Checks.UNSUPPORTED, () -> x.told(0, 2, 23));
        Checks.due(0, () -> x.told(0, 2, 21));
        Checks.due(0, () -> x.told(0, 3, 0));
        Checks.due(Checks.MISSING, () -> x.told(1, 0, 0));
        Checks.due(Checks.INDEX, () -> x.told(0, 10, 0));
        Checks.due(Checks.INDEX, () -> x.told(0, -1, 0));
        Checks.due(Checks.INDEX, () -> x.told(0, 0, 24));
        Checks.due(Checks.INDEX, () -> x.told(0, 2, -1));
    }

    private static void fallingWaterRoundsDown() {
        SwathSurvey x = new SwathSurvey();
        x.addGauge(0);
        x.setWater(0, 3, 10);
        x.setWater(0, 6, 3);
        x.fail(0, 0, 4, 6);
        Checks.due(7, () -> x.told(0, 0, 4));
        Checks.due(5, () -> x.told(0, 0, 5));
    }

    private static void tides() {
        SwathSurvey x = new SwathSurvey();
        Checks.due(Checks.UNSUPPORTED, () -> x.tide(3, 0, 0));
        x.setSlope(0, -2);
        x.setWater(0, 0, 20);
        x.addGauge(15);
        Checks.due(12, () -> x.tide(0, 0, 0));
        Checks.due(12, () -> x.tide(15, 0, 0));
        Checks.due(12, () -> x.tide(19, 0, 0));
        x.addGauge(2);
        x.addGauge(8);
        int[] want = {19, 19, 19, 18, 18, 17, 17, 16, 16, 15, 14, 14, 13, 13, 12, 12, 12, 12, 12, 12};
        for (int column = 0; column < 20; column++) {
            int asked = column;
            Checks.due(want[column], () -> x.tide(asked, 0, 0));
        }
        Checks.due(Checks.INDEX, () -> x.tide(-1, 0, 0));
        Checks.due(Checks.INDEX, () -> x.tide(20, 0, 0));
        Checks.due(Checks.INDEX, () -> x.tide(0, 10, 0));
        Checks.due(Checks.INDEX, () -> x.tide(0, -1, 0));
        Checks.due(Checks.INDEX, () -> x.tide(0, 0, 24));
        Checks.due(Checks.INDEX, () -> x.tide(0, 0, -1));
    }

    private static void tidesLeaveSilentGaugesOut() {
        SwathSurvey x = new SwathSurvey();
        x.setSlope(0, 2);
        x.addGauge(4);
        x.addGauge(8);
        x.addGauge(19);
        Checks.due(4, () -> x.tide(8, 0, 12));
        x.fail(1, 0, 9, 16);
        // Between 2 in column 4 and 9 in column 19: 2 + 7 * 4 / 15.
        Checks.due(3, () -> x.tide(8, 0, 12));
        x.fail(2, 0, 9, 16);
        Checks.due(2, () -> x.tide(8, 0, 12));
        Checks.due(2, () -> x.tide(19, 0, 12));
        x.fail(0, 0, 9, 16);
        Checks.due(Checks.UNSUPPORTED, () -> x.tide(8, 0, 12));
        Checks.due(4, () -> x.tide(8, 0, 16));
        x.mend(2, 0);
        Checks.due(9, () -> x.tide(8, 0, 12));
    }
}
