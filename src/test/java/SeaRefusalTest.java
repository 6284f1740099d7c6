/** Promises 2 to 6: every exception, in the order in which they are listed; none changes anything. */
final class SeaRefusalTest {
    private static final Twins ORDINARY = new Twins(Made::ordinary);

    private SeaRefusalTest() {
    }

    public static void main(String[] args) {
        noSuchCell();
        depthOutOfRange();
        noSuchHour();
        heightOutOfRange();
        slope();
        waterAt();
        weather();
        ORDINARY.end();
        Checks.end("SeaRefusalTest");
    }

    private static void noSuchCell() {
        for (int depth : new int[] {20, 1, 99, 0, 100}) {
            for (int column : Made.outside(20)) {
                ORDINARY.refuse(Checks.INDEX, x -> x.setFloor(column, 0, depth));
                ORDINARY.refuse(Checks.INDEX, x -> x.setFloor(column, 11, depth));
                ORDINARY.refuse(Checks.INDEX, x -> x.setFloor(column, 12, depth));
            }
            for (int row : Made.outside(12)) {
                ORDINARY.refuse(Checks.INDEX, x -> x.setFloor(0, row, depth));
                ORDINARY.refuse(Checks.INDEX, x -> x.setFloor(19, row, depth));
            }
            // A column is no row: of the cells (12, 19) and (11, 12) none is in the chart.
            ORDINARY.refuse(Checks.INDEX, x -> x.setFloor(12, 19, depth));
            ORDINARY.refuse(Checks.INDEX, x -> x.setFloor(11, 12, depth));
        }
    }

    private static void depthOutOfRange() {
        for (int depth : Made.beyond(1, 99)) {
            ORDINARY.refuse(Checks.ARGUMENT, x -> x.setFloor(0, 0, depth));
            ORDINARY.refuse(Checks.ARGUMENT, x -> x.setFloor(5, 4, depth));
            ORDINARY.refuse(Checks.ARGUMENT, x -> x.setFloor(19, 11, depth));
        }
    }

    private static void noSuchHour() {
        for (int height : new int[] {0, 30, 7, -1, 31}) {
            for (int day : Made.outside(10)) {
                ORDINARY.refuse(Checks.INDEX, x -> x.setWater(day, 0, height));
                ORDINARY.refuse(Checks.INDEX, x -> x.setWater(day, 23, height));
                ORDINARY.refuse(Checks.INDEX, x -> x.setWater(day, 24, height));
            }
            for (int hour : Made.outside(24)) {
                ORDINARY.refuse(Checks.INDEX, x -> x.setWater(0, hour, height));
                ORDINARY.refuse(Checks.INDEX, x -> x.setWater(9, hour, height));
            }
        }
    }

    private static void heightOutOfRange() {
        for (int height : Made.beyond(0, 30)) {
            ORDINARY.refuse(Checks.ARGUMENT, x -> x.setWater(0, 0, height));
            ORDINARY.refuse(Checks.ARGUMENT, x -> x.setWater(0, 6, height));
            ORDINARY.refuse(Checks.ARGUMENT, x -> x.setWater(9, 23, height));
        }
    }

    private static void slope() {
        for (int day : Made.outside(10)) {
            for (int slope : new int[] {-3, -2, 0, 1, 2, 3}) {
                ORDINARY.refuse(Checks.INDEX, x -> x.setSlope(day, slope));
            }
        }
        for (int slope : Made.beyond(-2, 2)) {
            ORDINARY.refuse(Checks.ARGUMENT, x -> x.setSlope(0, slope));
            ORDINARY.refuse(Checks.ARGUMENT, x -> x.setSlope(9, slope));
        }
    }

    private static void waterAt() {
        for (int column : Made.outside(20)) {
            ORDINARY.refuse(Checks.INDEX, x -> x.waterAt(column, 0, 0));
            ORDINARY.refuse(Checks.INDEX, x -> x.waterAt(column, 9, 23));
        }
        for (int day : Made.outside(10)) {
            ORDINARY.refuse(Checks.INDEX, x -> x.waterAt(0, day, 0));
            ORDINARY.refuse(Checks.INDEX, x -> x.waterAt(19, day, 23));
        }
        for (int hour : Made.outside(24)) {
            ORDINARY.refuse(Checks.INDEX, x -> x.waterAt(0, 0, hour));
            ORDINARY.refuse(Checks.INDEX, x -> x.waterAt(19, 9, hour));
        }
    }

    private static void weather() {
        for (int day : Made.outside(10)) {
            for (int force : new int[] {-1, 0, 5, 9, 10}) {
                ORDINARY.refuse(Checks.INDEX, x -> x.setWeather(day, force));
            }
        }
        for (int force : Made.beyond(0, 9)) {
            ORDINARY.refuse(Checks.ARGUMENT, x -> x.setWeather(0, force));
            ORDINARY.refuse(Checks.ARGUMENT, x -> x.setWeather(3, force));
            ORDINARY.refuse(Checks.ARGUMENT, x -> x.setWeather(9, force));
        }
    }
}
