/** Surveys that have something in all their parts, so that a call that is refused could change it. */
final class Made {
    private Made() {
    }

    static SwathSurvey fresh() {
        return new SwathSurvey();
    }

    /**
     * Gauges 0 and 1 in the columns 4 and 15. Line 0 sounds on day 0 in the hours 6 and 7, line 1 on day 1 from 10 to
     * 12, line 2 on day 2 in the hour 23, where nothing is told. The weather is too bad on the days 3 and 4.
     */
    static SwathSurvey ordinary() {
        SwathSurvey x = new SwathSurvey();
        x.setFloor(0, 0, 99);
        x.setFloor(19, 11, 35);
        x.setFloor(5, 4, 35);
        x.setFloor(3, 4, 9);
        x.setWater(0, 0, 3);
        x.setWater(0, 6, 12);
        x.setWater(0, 7, 30);
        x.setWater(9, 23, 8);
        x.setSlope(0, -2);
        x.setSlope(1, 1);
        x.setSlope(9, 2);
        x.setWeather(0, 2);
        x.setWeather(3, 5);
        x.setWeather(4, 9);
        x.setWeather(5, 4);
        x.setWeather(9, 3);
        x.addGauge(4);
        x.addGauge(15);
        x.run('r', 4, 0, 9, 0, 6);
        x.run('c', 5, 11, 0, 1, 10);
        x.run('r', 0, 19, 19, 2, 23);
        x.disturb(0, 2, 1, 7);
        x.disturb(1, 0, 0, -60);
        x.disturb(2, 0, 0, 60);
        x.fail(0, 1, 10, 12);
        x.fail(0, 2, 20, 24);
        x.fail(1, 2, 0, 24);
        x.writeLine(0);
        return x;
    }

    /** As many gauges and lines as there can be, and a depth in each cell. The weather is too bad on day 2. */
    static SwathSurvey full() {
        SwathSurvey x = new SwathSurvey();
        x.addGauge(0);
        x.addGauge(10);
        x.addGauge(19);
        x.setWeather(2, 5);
        x.run('r', 2, 0, 19, 0, 0);
        x.run('r', 7, 0, 19, 0, 4);
        x.run('r', 11, 0, 19, 0, 8);
        for (int number = 3; number < 16; number++) {
            x.run('c', number, 6, 6, 1, number);
        }
        x.writeLine(15);
        return x;
    }

    /** Numbers that are none of 0 to end - 1: the nearest ones and the farthest ones. */
    static int[] outside(int end) {
        return new int[] {Integer.MIN_VALUE, -end, -1, end, Integer.MAX_VALUE};
    }

    /** Numbers below the least one and above the greatest one: the nearest ones and the farthest ones. */
    static int[] beyond(int least, int greatest) {
        return new int[] {Integer.MIN_VALUE, least - 1, greatest + 1, Integer.MAX_VALUE};
    }
}
