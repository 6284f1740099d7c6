/** Promises 12 to 20: every exception, in the order in which they are listed; none changes anything. */
final class LineRefusalTest {
    private static final int[] LINES = {Integer.MIN_VALUE, -1, 3, 15, 16, Integer.MAX_VALUE};

    private static final Twins FRESH = new Twins(Made::fresh);
    private static final Twins ORDINARY = new Twins(Made::ordinary);
    private static final Twins FULL = new Twins(Made::full);

    private LineRefusalTest() {
    }

    public static void main(String[] args) {
        runningNoSuchKind();
        runningOutsideOfTheChart();
        runningInBadWeather();
        runningWithoutPlace();
        runningASeventeenthLine();
        runningAnewNoSuchLine();
        runningAnewNoSuchHour();
        runningAnewInBadWeather();
        runningAnewWithoutPlace();
        disturbing();
        askingForSoundings();
        counting();
        FRESH.end();
        ORDINARY.end();
        FULL.end();
        Checks.end("LineRefusalTest");
    }

    private static void runningNoSuchKind() {
        for (char kind : new char[] {0, 'q', 's', 'b', 'd', 'R', 'C', ' ', (char) ('r' + 256), 65535}) {
            ORDINARY.refuse(Checks.ARGUMENT, x -> x.run(kind, 0, 0, 0, 5, 0));
            ORDINARY.refuse(Checks.ARGUMENT, x -> x.run(kind, 20, 0, 0, 5, 0));
            ORDINARY.refuse(Checks.ARGUMENT, x -> x.run(kind, 0, -1, 20, 10, 24));
            ORDINARY.refuse(Checks.ARGUMENT, x -> x.run(kind, 0, 0, 0, 3, 0));
            ORDINARY.refuse(Checks.ARGUMENT, x -> x.run(kind, 0, 0, 0, 0, 6));
            FULL.refuse(Checks.ARGUMENT, x -> x.run(kind, 0, 0, 0, 2, 0));
        }
    }

    /** Day 3 has bad weather, and in the hour 23 such a line would not end on its day. */
    private static void runningOutsideOfTheChart() {
        for (int day : new int[] {3, 5}) {
            for (int hour : new int[] {0, 23}) {
                for (int index : Made.outside(12)) {
                    ORDINARY.refuse(Checks.INDEX, x -> x.run('r', index, 0, 19, day, hour));
                    ORDINARY.refuse(Checks.INDEX, x -> x.run('c', 0, index, 11, day, hour));
                    ORDINARY.refuse(Checks.INDEX, x -> x.run('c', 19, 0, index, day, hour));
                }
                for (int index : Made.outside(20)) {
                    ORDINARY.refuse(Checks.INDEX, x -> x.run('c', index, 0, 11, day, hour));
                    ORDINARY.refuse(Checks.INDEX, x -> x.run('r', 0, index, 19, day, hour));
                    ORDINARY.refuse(Checks.INDEX, x -> x.run('r', 11, 0, index, day, hour));
                }
                ORDINARY.refuse(Checks.INDEX, x -> x.run('r', 0, Integer.MIN_VALUE, Integer.MAX_VALUE, day, hour));
                ORDINARY.refuse(Checks.INDEX, x -> x.run('c', 0, 12, 12, day, hour));
            }
        }
        for (int day : Made.outside(10)) {
            ORDINARY.refuse(Checks.INDEX, x -> x.run('r', 0, 0, 0, day, 0));
            ORDINARY.refuse(Checks.INDEX, x -> x.run('c', 0, 0, 11, day, 23));
        }
        for (int hour : Made.outside(24)) {
            ORDINARY.refuse(Checks.INDEX, x -> x.run('r', 0, 0, 0, 5, hour));
            ORDINARY.refuse(Checks.INDEX, x -> x.run('c', 0, 0, 0, 3, hour));
        }
        FULL.refuse(Checks.INDEX, x -> x.run('r', 12, 0, 0, 2, 0));
        FULL.refuse(Checks.INDEX, x -> x.run('r', 0, 0, 20, 5, 0));
    }

    private static void runningInBadWeather() {
        for (int day : new int[] {3, 4}) {
            ORDINARY.refuse(Checks.UNSUPPORTED, x -> x.run('r', 0, 0, 0, day, 0));
            ORDINARY.refuse(Checks.UNSUPPORTED, x -> x.run('c', 19, 11, 0, day, 12));
            ORDINARY.refuse(Checks.UNSUPPORTED, x -> x.run('c', 19, 11, 0, day, 23));
        }
        FULL.refuse(Checks.UNSUPPORTED, x -> x.run('r', 0, 0, 0, 2, 0));
    }

    private static void runningWithoutPlace() {
        ORDINARY.refuse(Checks.STATE, x -> x.run('r', 0, 0, 5, 5, 23));
        ORDINARY.refuse(Checks.STATE, x -> x.run('r', 0, 19, 10, 5, 23));
        ORDINARY.refuse(Checks.STATE, x -> x.run('c', 0, 10, 0, 5, 22));
        ORDINARY.refuse(Checks.STATE, x -> x.run('r', 0, 4, 19, 5, 21));
        // Line 0 sounds on day 0 in the hours 6 and 7.
        ORDINARY.refuse(Checks.STATE, x -> x.run('r', 0, 0, 0, 0, 6));
        ORDINARY.refuse(Checks.STATE, x -> x.run('r', 0, 0, 0, 0, 7));
        ORDINARY.refuse(Checks.STATE, x -> x.run('r', 0, 0, 5, 0, 5));
        ORDINARY.refuse(Checks.STATE, x -> x.run('c', 0, 0, 5, 0, 7));
        ORDINARY.refuse(Checks.STATE, x -> x.run('r', 0, 0, 19, 0, 5));
        ORDINARY.refuse(Checks.STATE, x -> x.run('r', 0, 0, 19, 0, 3));
        // Line 2 sounds on day 2 in the hour 23.
        ORDINARY.refuse(Checks.STATE, x -> x.run('r', 0, 19, 19, 2, 23));
        ORDINARY.refuse(Checks.STATE, x -> x.run('c', 0, 0, 11, 2, 21));
    }

    private static void runningASeventeenthLine() {
        FULL.refuse(Checks.STATE, x -> x.run('r', 0, 0, 0, 9, 0));
        FULL.refuse(Checks.STATE, x -> x.run('c', 19, 11, 0, 0, 12));
        FULL.refuse(Checks.STATE, x -> x.run('c', 19, 11, 0, 0, 0));
    }

    private static void runningAnewNoSuchLine() {
        FRESH.refuse(Checks.MISSING, x -> x.runAnew(0, 0, 0));
        for (int line : LINES) {
            ORDINARY.refuse(Checks.MISSING, x -> x.runAnew(line, 5, 0));
            ORDINARY.refuse(Checks.MISSING, x -> x.runAnew(line, 10, 0));
            ORDINARY.refuse(Checks.MISSING, x -> x.runAnew(line, 5, 24));
            ORDINARY.refuse(Checks.MISSING, x -> x.runAnew(line, 3, 0));
            ORDINARY.refuse(Checks.MISSING, x -> x.runAnew(line, 0, 6));
        }
        FULL.refuse(Checks.MISSING, x -> x.runAnew(16, 5, 0));
    }

    private static void runningAnewNoSuchHour() {
        for (int line = 0; line < 3; line++) {
            int asked = line;
            for (int day : Made.outside(10)) {
                ORDINARY.refuse(Checks.INDEX, x -> x.runAnew(asked, day, 0));
                ORDINARY.refuse(Checks.INDEX, x -> x.runAnew(asked, day, 23));
            }
            for (int hour : Made.outside(24)) {
                ORDINARY.refuse(Checks.INDEX, x -> x.runAnew(asked, 5, hour));
                ORDINARY.refuse(Checks.INDEX, x -> x.runAnew(asked, 3, hour));
            }
        }
    }

    private static void runningAnewInBadWeather() {
        for (int day : new int[] {3, 4}) {
            ORDINARY.refuse(Checks.UNSUPPORTED, x -> x.runAnew(0, day, 0));
            ORDINARY.refuse(Checks.UNSUPPORTED, x -> x.runAnew(0, day, 23));
            ORDINARY.refuse(Checks.UNSUPPORTED, x -> x.runAnew(2, day, 23));
        }
    }

    private static void runningAnewWithoutPlace() {
        ORDINARY.refuse(Checks.STATE, x -> x.runAnew(0, 5, 23));
        ORDINARY.refuse(Checks.STATE, x -> x.runAnew(1, 5, 22));
        ORDINARY.refuse(Checks.STATE, x -> x.runAnew(1, 1, 23));
        for (int hour = 9; hour <= 12; hour++) {
            int asked = hour;
            ORDINARY.refuse(Checks.STATE, x -> x.runAnew(0, 1, asked));
        }
        for (int hour = 4; hour <= 7; hour++) {
            int asked = hour;
            ORDINARY.refuse(Checks.STATE, x -> x.runAnew(1, 0, asked));
        }
        ORDINARY.refuse(Checks.STATE, x -> x.runAnew(0, 2, 22));
        ORDINARY.refuse(Checks.STATE, x -> x.runAnew(2, 0, 6));
        ORDINARY.refuse(Checks.STATE, x -> x.runAnew(2, 0, 7));
        ORDINARY.refuse(Checks.STATE, x -> x.runAnew(2, 1, 11));
        FULL.refuse(Checks.STATE, x -> x.runAnew(0, 0, 1));
        FULL.refuse(Checks.STATE, x -> x.runAnew(15, 1, 14));
    }

    /** In cell 5 line 0 sounds 3 cells at each side, in cell 3 none, elsewhere 2; line 2 sounds rows 0 to 2. */
    private static final int[][] NO_SOUNDINGS = {{0, Integer.MIN_VALUE, 0}, {0, -1, 0}, {0, 10, 0}, {0, 20, 0},
        {0, Integer.MAX_VALUE, 0}, {0, 0, -3}, {0, 0, 3}, {0, 0, Integer.MIN_VALUE}, {0, 0, Integer.MAX_VALUE},
        {0, 3, -1}, {0, 3, 1}, {0, 5, -4}, {0, 5, 4}, {0, 1, -7}, {0, 1, 7}, {1, -1, 0}, {1, 12, 0}, {1, 0, -3},
        {1, 0, 3}, {2, 0, -1}, {2, 0, 3}, {2, 1, 0}, {2, -1, 0}, {2, Integer.MIN_VALUE, Integer.MAX_VALUE}};

    private static void disturbing() {
        FRESH.refuse(Checks.MISSING, x -> x.disturb(0, 0, 0, 0));
        for (int line : LINES) {
            ORDINARY.refuse(Checks.MISSING, x -> x.disturb(line, 0, 0, 5));
            ORDINARY.refuse(Checks.MISSING, x -> x.disturb(line, -1, 9, 5));
            ORDINARY.refuse(Checks.MISSING, x -> x.disturb(line, 0, 0, 61));
        }
        for (int[] place : NO_SOUNDINGS) {
            for (int error : new int[] {5, -60, 60, -61, 61}) {
                ORDINARY.refuse(Checks.INDEX, x -> x.disturb(place[0], place[1], place[2], error));
            }
        }
        for (int error : Made.beyond(-60, 60)) {
            ORDINARY.refuse(Checks.ARGUMENT, x -> x.disturb(0, 2, 1, error));
            ORDINARY.refuse(Checks.ARGUMENT, x -> x.disturb(1, 0, 0, error));
            ORDINARY.refuse(Checks.ARGUMENT, x -> x.disturb(2, 0, 0, error));
        }
    }

    private static void askingForSoundings() {
        FRESH.refuse(Checks.MISSING, x -> x.sounding(0, 0, 0));
        FRESH.refuse(Checks.MISSING, x -> x.reduced(0, 0, 0));
        FRESH.refuse(Checks.MISSING, x -> x.isSpike(0, 0, 0));
        for (int line : LINES) {
            for (int cell : new int[] {0, -1, 20}) {
                ORDINARY.refuse(Checks.MISSING, x -> x.sounding(line, cell, 0));
                ORDINARY.refuse(Checks.MISSING, x -> x.reduced(line, cell, 0));
                ORDINARY.refuse(Checks.MISSING, x -> x.isSpike(line, cell, 0));
            }
        }
        for (int[] place : NO_SOUNDINGS) {
            ORDINARY.refuse(Checks.INDEX, x -> x.sounding(place[0], place[1], place[2]));
            ORDINARY.refuse(Checks.INDEX, x -> x.reduced(place[0], place[1], place[2]));
            ORDINARY.refuse(Checks.INDEX, x -> x.isSpike(place[0], place[1], place[2]));
        }
        for (int side = 0; side <= 2; side++) {
            int asked = side;
            ORDINARY.refuse(Checks.UNSUPPORTED, x -> x.reduced(2, 0, asked));
        }
    }

    private static void counting() {
        FRESH.refuse(Checks.MISSING, x -> x.soundings(0));
        FRESH.refuse(Checks.MISSING, x -> x.spikes(0));
        FRESH.refuse(Checks.MISSING, x -> x.lost(0));
        for (int line : LINES) {
            ORDINARY.refuse(Checks.MISSING, x -> x.soundings(line));
            ORDINARY.refuse(Checks.MISSING, x -> x.spikes(line));
            ORDINARY.refuse(Checks.MISSING, x -> x.lost(line));
        }
        for (int line : Made.outside(16)) {
            FULL.refuse(Checks.MISSING, x -> x.soundings(line));
            FULL.refuse(Checks.MISSING, x -> x.spikes(line));
            FULL.refuse(Checks.MISSING, x -> x.lost(line));
        }
    }
}
