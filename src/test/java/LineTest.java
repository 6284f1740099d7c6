/** Promises 12 to 16: running lines, disturbing and asking soundings. */
final class LineTest {
    private LineTest() {
    }

    public static void main(String[] args) {
        runningRefuses();
        runningInAnOrderOfExceptions();
        hoursOfLines();
        sixteenLines();
        swaths();
        soundingsKeepTheirTime();
        runningAnew();
        runningAnewRefuses();
        disturbing();
        asking();
        Checks.end("LineTest");
    }

    private static void runningRefuses() {
        SwathSurvey x = new SwathSurvey();
        for (char kind : new char[] {'R', 'C', 'x', 0, (char) 65535}) {
            Checks.due(Checks.ARGUMENT, () -> x.run(kind, 0, 0, 0, 0, 0));
        }
        int[][] outside = {{-1, 0, 0, 0, 0}, {12, 0, 0, 0, 0}, {0, -1, 0, 0, 0}, {0, 20, 0, 0, 0}, {0, 0, -1, 0, 0},
            {0, 0, 20, 0, 0}, {0, 0, 0, -1, 0}, {0, 0, 0, 10, 0}, {0, 0, 0, 0, -1}, {0, 0, 0, 0, 24},
            {0, Integer.MIN_VALUE, Integer.MAX_VALUE, 0, 0}};
        for (int[] way : outside) {
            Checks.due(Checks.INDEX, () -> x.run('r', way[0], way[1], way[2], way[3], way[4]));
        }
        int[][] outsideAlongColumn = {{-1, 0, 0}, {20, 0, 0}, {0, -1, 0}, {0, 12, 0}, {0, 0, -1}, {0, 0, 12}};
        for (int[] way : outsideAlongColumn) {
            Checks.due(Checks.INDEX, () -> x.run('c', way[0], way[1], way[2], 0, 0));
        }
        x.setWeather(1, 5);
        Checks.due(Checks.UNSUPPORTED, () -> x.run('r', 0, 0, 0, 1, 0));
        x.setWeather(1, 4);
        Checks.due(0, () -> x.run('r', 0, 0, 0, 1, 0));
        Checks.due(1, () -> x.run('r', 11, 19, 0, 1, 1));
        Checks.due(2, () -> x.run('c', 19, 11, 0, 1, 5));
        Checks.due(3, x::lines);
    }

    private static void runningInAnOrderOfExceptions() {
        SwathSurvey x = new SwathSurvey();
        x.setWeather(2, 9);
        Checks.due(Checks.ARGUMENT, () -> x.run('q', 99, 99, 99, 99, 99));
        Checks.due(Checks.INDEX, () -> x.run('r', 99, 0, 19, 2, 23));
        Checks.due(Checks.UNSUPPORTED, () -> x.run('r', 0, 0, 19, 2, 23));
        x.setWeather(2, 0);
        Checks.due(Checks.STATE, () -> x.run('r', 0, 0, 19, 2, 23));
    }

    private static void hoursOfLines() {
        SwathSurvey x = new SwathSurvey();
        Checks.due(Checks.STATE, () -> x.run('r', 0, 0, 5, 0, 23));
        Checks.due(0, () -> x.run('r', 0, 0, 4, 0, 23));
        Checks.due(Checks.STATE, () -> x.run('r', 0, 0, 0, 0, 23));
        Checks.due(Checks.STATE, () -> x.run('r', 0, 19, 10, 0, 22));
        Checks.due(1, () -> x.run('r', 0, 19, 10, 0, 21));
        Checks.due(Checks.STATE, () -> x.run('r', 0, 0, 19, 0, 18));
        Checks.due(2, () -> x.run('r', 0, 0, 19, 0, 17));
        Checks.due(Checks.STATE, () -> x.run('c', 0, 0, 0, 0, 20));
        Checks.due(Checks.STATE, () -> x.run('c', 0, 0, 0, 0, 17));
        Checks.due(3, () -> x.run('c', 0, 0, 0, 1, 17));
        Checks.due(Checks.STATE, () -> x.run('c', 0, 0, 11, 1, 16));
        Checks.due(4, () -> x.run('c', 0, 11, 0, 1, 14));
        Checks.due(7, () -> x.hours(0));
        Checks.due(4, () -> x.hours(1));
    }

    private static void sixteenLines() {
        SwathSurvey x = new SwathSurvey();
        for (int number = 0; number < 16; number++) {
            int asked = number;
            Checks.due(number, () -> x.run('r', asked % 12, 0, 0, 0, asked));
        }
        Checks.due(Checks.STATE, () -> x.run('r', 0, 0, 0, 5, 0));
        Checks.due(Checks.INDEX, () -> x.run('r', 0, 0, 20, 5, 0));
        Checks.due(16, x::lines);
        Checks.due(0, () -> x.dayOf(15));
        Checks.due(0, () -> x.runAnew(15, 5, 0));
        Checks.due(5, () -> x.dayOf(15));
    }

    private static void swaths() {
        SwathSurvey x = new SwathSurvey();
        int[] floors = {9, 10, 19, 20, 29, 30, 40, 99, 1};
        int[] reaches = {0, 1, 1, 2, 2, 3, 3, 3, 0};
        for (int column = 0; column < floors.length; column++) {
            x.setFloor(column, 5, floors[column]);
        }
        x.run('r', 5, 8, 0, 0, 0);
        int sum = 0;
        for (int column = 0; column < floors.length; column++) {
            sum += 2 * reaches[column] + 1;
            for (int side = -4; side <= 4; side++) {
                int cell = 8 - column;
                int asked = side;
                Object want = Math.abs(side) > reaches[column] ? Checks.INDEX : side == 0 ? floors[column] : 20;
                Checks.due(want, () -> x.sounding(0, cell, asked));
            }
        }
        int all = sum;
        Checks.due(all, () -> x.soundings(0));
        x.setFloor(19, 0, 99);
        x.setFloor(17, 0, 33);
        x.run('c', 19, 0, 0, 0, 5);
        Checks.due(4, () -> x.soundings(1));
        Checks.due(33, () -> x.sounding(1, 0, -2));
        Checks.due(20, () -> x.sounding(1, 0, -1));
        Checks.due(Checks.INDEX, () -> x.sounding(1, 0, 1));
        Checks.due(99, () -> x.sounding(1, 0, 0));
        x.run('r', 11, 0, 0, 0, 6);
        Checks.due(3, () -> x.soundings(2));
        Checks.due(Checks.INDEX, () -> x.sounding(2, 0, 1));
        Checks.due(20, () -> x.sounding(2, 0, -2));
    }

    private static void soundingsKeepTheirTime() {
        SwathSurvey x = new SwathSurvey();
        x.setSlope(0, 2);
        x.setWater(0, 3, 5);
        x.setWater(0, 4, 9);
        x.run('r', 0, 10, 0, 0, 3);
        // The water in the column of the ship, in the hour of its cell.
        Checks.due(30, () -> x.sounding(0, 0, 0));
        Checks.due(30, () -> x.sounding(0, 0, 2));
        Checks.due(28, () -> x.sounding(0, 4, 0));
        Checks.due(31, () -> x.sounding(0, 5, 0));
        Checks.due(20, () -> x.sounding(0, 10, 0));
        x.run('c', 9, 0, 5, 0, 6);
        Checks.due(24, () -> x.sounding(1, 0, -2));
        Checks.due(24, () -> x.sounding(1, 5, 2));
        x.setFloor(10, 0, 50);
        x.setWater(0, 3, 30);
        x.setSlope(0, 0);
        Checks.due(30, () -> x.sounding(0, 0, 0));
        Checks.due(Checks.INDEX, () -> x.sounding(0, 0, 3));
        x.runAnew(0, 0, 3);
        Checks.due(80, () -> x.sounding(0, 0, 0));
        Checks.due(50, () -> x.sounding(0, 0, 3));
    }

    private static void runningAnew() {
        SwathSurvey x = new SwathSurvey();
        x.addGauge(0);
        x.run('r', 5, 0, 9, 0, 0);
        x.disturb(0, 0, 0, 7);
        x.run('r', 11, 0, 4, 0, 5);
        Checks.due(64, x::charted);
        x.setFloor(3, 5, 9);
        Checks.due(60, () -> x.runAnew(0, 2, 22));
        Checks.due(2, () -> x.dayOf(0));
        Checks.due(20, () -> x.sounding(0, 0, 0));
        Checks.due(46, () -> x.soundings(0));
        Checks.due(1, () -> x.hours(0));
        Checks.due(2, () -> x.hours(2));
        x.fail(0, 2, 0, 24);
        Checks.due(15, () -> x.runAnew(1, 0, 6));
        Checks.due(0, () -> x.run('r', 0, 0, 0, 0, 5) - 2);
    }

    private static void runningAnewRefuses() {
        SwathSurvey x = new SwathSurvey();
        Checks.due(Checks.MISSING, () -> x.runAnew(0, 10, 24));
        x.run('r', 5, 0, 9, 0, 4);
        x.disturb(0, 0, 0, 7);
        x.run('c', 5, 0, 0, 0, 8);
        x.setWeather(1, 5);
        Checks.due(Checks.MISSING, () -> x.runAnew(2, 0, 0));
        Checks.due(Checks.MISSING, () -> x.runAnew(-1, 0, 0));
        Checks.due(Checks.INDEX, () -> x.runAnew(0, 10, 0));
        Checks.due(Checks.INDEX, () -> x.runAnew(0, -1, 0));
        Checks.due(Checks.INDEX, () -> x.runAnew(0, 1, 24));
        Checks.due(Checks.INDEX, () -> x.runAnew(0, 1, -1));
        Checks.due(Checks.UNSUPPORTED, () -> x.runAnew(0, 1, 23));
        Checks.due(Checks.STATE, () -> x.runAnew(0, 2, 23));
        Checks.due(Checks.STATE, () -> x.runAnew(0, 0, 7));
        Checks.due(Checks.STATE, () -> x.runAnew(0, 0, 8));
        Checks.due(Checks.STATE, () -> x.runAnew(1, 0, 5));
        Checks.due(0, () -> x.runAnew(0, 0, 5));
        Checks.due(0, () -> x.runAnew(0, 0, 6));
        Checks.due(20, () -> x.sounding(0, 0, 0));
    }

    private static void disturbing() {
        SwathSurvey x = new SwathSurvey();
        Checks.due(Checks.MISSING, () -> x.disturb(0, 99, 99, 99));
        x.run('c', 1, 3, 6, 0, 0);
        Checks.due(0, () -> x.disturb(0, 3, -1, 60));
        Checks.due(60, () -> x.disturb(0, 3, -1, -60));
        Checks.due(-60, () -> x.disturb(0, 3, -1, 5));
        Checks.due(25, () -> x.sounding(0, 3, -1));
        Checks.due(20, () -> x.sounding(0, 3, 1));
        Checks.due(20, () -> x.sounding(0, 2, -1));
        Checks.due(Checks.MISSING, () -> x.disturb(1, 0, 0, 0));
        Checks.due(Checks.MISSING, () -> x.disturb(-1, 0, 0, 0));
        int[][] none = {{-1, 0}, {4, 0}, {0, -2}, {0, 3}, {0, Integer.MIN_VALUE}, {Integer.MAX_VALUE, 0}, {4, -7}};
        for (int[] place : none) {
            Checks.due(Checks.INDEX, () -> x.disturb(0, place[0], place[1], 61));
        }
        Checks.due(Checks.ARGUMENT, () -> x.disturb(0, 3, -1, 61));
        Checks.due(Checks.ARGUMENT, () -> x.disturb(0, 3, -1, -61));
        Checks.due(5, () -> x.disturb(0, 3, -1, 0));
    }

    private static void asking() {
        SwathSurvey x = new SwathSurvey();
        Checks.due(Checks.MISSING, () -> x.soundings(0));
        Checks.due(Checks.MISSING, () -> x.sounding(0, 0, 0));
        x.run('r', 6, 7, 7, 0, 0);
        Checks.due(5, () -> x.soundings(0));
        Checks.due(Checks.MISSING, () -> x.soundings(1));
        Checks.due(Checks.MISSING, () -> x.soundings(-1));
        Checks.due(Checks.MISSING, () -> x.sounding(1, 9, 9));
        Checks.due(Checks.INDEX, () -> x.sounding(0, 1, 0));
        Checks.due(Checks.INDEX, () -> x.sounding(0, -1, 0));
        Checks.due(Checks.INDEX, () -> x.sounding(0, 0, -3));
        Checks.due(Checks.INDEX, () -> x.sounding(0, 0, 3));
        Checks.due(Checks.INDEX, () -> x.sounding(0, 1, -7));
    }
}
