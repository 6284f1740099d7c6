/** Promises 1 to 6: a new survey, the floor, the water and the weather. */
final class SeaTest {
    private SeaTest() {
    }

    public static void main(String[] args) {
        newSurvey();
        floor();
        water();
        slope();
        weather();
        Checks.end("SeaTest");
    }

    private static void newSurvey() {
        SwathSurvey x = new SwathSurvey();
        Checks.due(0, x::lines);
        Checks.due(0, x::charted);
        Checks.due(0, x::toRun);
        Checks.due(0L, x::hire);
        Checks.due(0.0f, x::chartedShare);
        Checks.due(Checks.ARITHMETIC, x::meanDepth);
        Checks.due(Checks.UNSUPPORTED, x::worstCross);
        Checks.due(Checks.INDEX, () -> x.textAt(0));
        Checks.due(Checks.MISSING, () -> x.told(0, 0, 0));
        Checks.due(Checks.UNSUPPORTED, () -> x.tide(0, 0, 0));
        Checks.due(Checks.MISSING, () -> x.dayOf(0));
        Checks.due(true, x::isSure);
        Checks.due(2, x::bestRow);
    }

    private static void floor() {
        SwathSurvey x = new SwathSurvey();
        Checks.due(20, () -> x.setFloor(0, 0, 1));
        Checks.due(1, () -> x.setFloor(0, 0, 99));
        Checks.due(99, () -> x.setFloor(0, 0, 50));
        Checks.due(20, () -> x.setFloor(19, 11, 7));
        Checks.due(7, () -> x.setFloor(19, 11, 8));
        Checks.due(20, () -> x.setFloor(1, 0, 20));
        for (int[] cell : new int[][] {{-1, 0}, {20, 0}, {0, -1}, {0, 12}, {Integer.MIN_VALUE, 0},
                {0, Integer.MAX_VALUE}, {12, 19}}) {
            Checks.due(Checks.INDEX, () -> x.setFloor(cell[0], cell[1], 5));
            Checks.due(Checks.INDEX, () -> x.setFloor(cell[0], cell[1], 0));
        }
        for (int depth : new int[] {0, -1, 100, Integer.MIN_VALUE, Integer.MAX_VALUE}) {
            Checks.due(Checks.ARGUMENT, () -> x.setFloor(0, 0, depth));
        }
        Checks.due(50, () -> x.setFloor(0, 0, 20));
    }

    private static void water() {
        SwathSurvey x = new SwathSurvey();
        Checks.due(0, () -> x.setWater(0, 0, 30));
        Checks.due(30, () -> x.setWater(0, 0, 0));
        Checks.due(0, () -> x.setWater(9, 23, 17));
        Checks.due(17, () -> x.waterAt(0, 9, 23));
        Checks.due(17, () -> x.waterAt(19, 9, 23));
        Checks.due(0, () -> x.waterAt(0, 9, 22));
        Checks.due(0, () -> x.waterAt(0, 8, 23));
        for (int[] hour : new int[][] {{-1, 0}, {10, 0}, {0, -1}, {0, 24}, {Integer.MAX_VALUE, 1}, {1, Integer.MIN_VALUE}}) {
            Checks.due(Checks.INDEX, () -> x.setWater(hour[0], hour[1], 3));
            Checks.due(Checks.INDEX, () -> x.setWater(hour[0], hour[1], 31));
            Checks.due(Checks.INDEX, () -> x.waterAt(0, hour[0], hour[1]));
        }
        Checks.due(Checks.ARGUMENT, () -> x.setWater(9, 23, -1));
        Checks.due(Checks.ARGUMENT, () -> x.setWater(9, 23, 31));
        Checks.due(Checks.INDEX, () -> x.waterAt(-1, 0, 0));
        Checks.due(Checks.INDEX, () -> x.waterAt(20, 0, 0));
        Checks.due(17, () -> x.setWater(9, 23, 0));
    }

    private static void slope() {
        SwathSurvey x = new SwathSurvey();
        x.setWater(3, 5, 10);
        Checks.due(0, () -> x.setSlope(3, 2));
        int[] rising = {10, 10, 11, 11, 12, 12, 13};
        for (int column = 0; column < rising.length; column++) {
            int asked = column;
            Checks.due(rising[column], () -> x.waterAt(asked, 3, 5));
        }
        Checks.due(19, () -> x.waterAt(19, 3, 5));
        Checks.due(2, () -> x.setSlope(3, -1));
        int[] falling = {10, 9, 9, 9, 9, 8, 8};
        for (int column = 0; column < falling.length; column++) {
            int asked = column;
            Checks.due(falling[column], () -> x.waterAt(asked, 3, 5));
        }
        Checks.due(-1, () -> x.setSlope(3, -2));
        Checks.due(0, () -> x.waterAt(19, 3, 5));
        Checks.due(-10, () -> x.waterAt(19, 3, 6));
        Checks.due(0, () -> x.waterAt(19, 4, 6));
        Checks.due(Checks.INDEX, () -> x.setSlope(-1, 0));
        Checks.due(Checks.INDEX, () -> x.setSlope(10, 9));
        Checks.due(Checks.ARGUMENT, () -> x.setSlope(3, 3));
        Checks.due(Checks.ARGUMENT, () -> x.setSlope(3, -3));
        Checks.due(-2, () -> x.setSlope(3, 0));
    }

    private static void weather() {
        SwathSurvey x = new SwathSurvey();
        Checks.due(0, () -> x.setWeather(0, 9));
        Checks.due(9, () -> x.setWeather(0, 4));
        Checks.due(0, () -> x.setWeather(9, 5));
        Checks.due(Checks.INDEX, () -> x.setWeather(-1, 0));
        Checks.due(Checks.INDEX, () -> x.setWeather(10, 10));
        Checks.due(Checks.ARGUMENT, () -> x.setWeather(0, -1));
        Checks.due(Checks.ARGUMENT, () -> x.setWeather(0, 10));
        Checks.due(4, () -> x.setWeather(0, 0));
        Checks.due(5, () -> x.setWeather(9, 5));
    }
}
