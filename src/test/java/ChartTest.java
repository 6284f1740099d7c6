/** Promises 21 to 25, 33 and 34: depths of the chart, gaps and the best row. */
final class ChartTest {
    private ChartTest() {
    }

    public static void main(String[] args) {
        leastDepths();
        emptyChart();
        gaps();
        bestRows();
        fullChart();
        means();
        Checks.end("ChartTest");
    }

    private static void dueDepth(SwathSurvey x, Object want, int column, int row) {
        Checks.due(want, () -> x.depth(column, row));
        Checks.due(want, () -> x.depthAnew(column, row));
    }

    private static void leastDepths() {
        SwathSurvey x = new SwathSurvey();
        x.addGauge(0);
        x.setFloor(4, 5, 25);
        x.run('r', 5, 0, 9, 0, 0);
        dueDepth(x, 25, 4, 5);
        dueDepth(x, 20, 4, 3);
        dueDepth(x, Checks.UNSUPPORTED, 4, 2);
        x.run('c', 4, 2, 8, 1, 0);
        dueDepth(x, 20, 4, 2);
        dueDepth(x, 25, 4, 5);
        x.disturb(1, 3, 0, -4);
        dueDepth(x, 21, 4, 5);
        x.disturb(1, 3, 0, -11);
        dueDepth(x, 25, 4, 5);
        Checks.due(1, () -> x.spikes(1));
        x.disturb(1, 3, 0, 5);
        dueDepth(x, 25, 4, 5);
        x.fail(0, 0, 0, 24);
        Checks.due(2, () -> x.toRun() + 1);
        x.disturb(1, 3, 0, 0);
        dueDepth(x, 25, 4, 5);
        dueDepth(x, 20, 2, 5);
        dueDepth(x, Checks.UNSUPPORTED, 0, 5);
        x.mend(0, 0);
        dueDepth(x, 20, 0, 5);
        // A depth below 0 is one like others.
        for (int cell = 0; cell < 10; cell++) {
            x.disturb(0, cell, -1, -60);
        }
        dueDepth(x, -40, 0, 4);
        dueDepth(x, -40, 4, 4);
        Checks.due(true, x::isSure);
    }

    private static void emptyChart() {
        SwathSurvey x = new SwathSurvey();
        x.run('r', 0, 0, 19, 0, 0);
        Checks.due(0, x::charted);
        for (int[] cell : new int[][] {{-1, 0}, {20, 0}, {0, -1}, {0, 12}, {Integer.MAX_VALUE, Integer.MIN_VALUE}}) {
            Checks.due(Checks.INDEX, () -> x.depth(cell[0], cell[1]));
            Checks.due(Checks.INDEX, () -> x.depthAnew(cell[0], cell[1]));
        }
        dueDepth(x, Checks.UNSUPPORTED, 0, 0);
        dueDepth(x, Checks.UNSUPPORTED, 19, 11);
        Checks.due(Checks.ARITHMETIC, x::meanDepth);
        Checks.due(0.0f, x::chartedShare);
    }

    private static void gaps() {
        SwathSurvey x = new SwathSurvey();
        x.addGauge(0);
        Checks.due(0, () -> x.gap(0));
        Checks.due(19, () -> x.gap(19));
        Checks.due(100, () -> x.gap(20));
        Checks.due(1119, () -> x.gap(239));
        Checks.due(Checks.MISSING, () -> x.gap(240));
        Checks.due(Checks.MISSING, () -> x.gap(-1));
        Checks.due(Checks.MISSING, () -> x.gap(Integer.MIN_VALUE));
        Checks.due(Checks.MISSING, () -> x.gap(Integer.MAX_VALUE));
        x.run('r', 0, 0, 18, 0, 0);
        Checks.due(19, () -> x.gap(0));
        Checks.due(119, () -> x.gap(1));
        Checks.due(219, () -> x.gap(2));
        Checks.due(300, () -> x.gap(3));
        Checks.due(1119, () -> x.gap(182));
        Checks.due(Checks.MISSING, () -> x.gap(183));
        Checks.due(57, x::charted);
        Checks.due(57.0f / 240.0f, x::chartedShare);
    }

    private static void bestRows() {
        SwathSurvey x = new SwathSurvey();
        x.addGauge(0);
        Checks.due(2, x::bestRow);
        x.setFloor(0, 7, 30);
        Checks.due(7, x::bestRow);
        x.setFloor(0, 6, 39);
        Checks.due(6, x::bestRow);
        x.setFloor(1, 6, 19);
        x.setFloor(2, 6, 10);
        Checks.due(7, x::bestRow);
        x.setFloor(0, 7, 20);
        Checks.due(2, x::bestRow);
        x.run('r', 2, 0, 19, 0, 0);
        Checks.due(7, x::bestRow);
        Checks.due(20.0, x::meanDepth);
        x.fail(0, 0, 0, 24);
        Checks.due(2, x::bestRow);
        // The weather and the ship's hours do not count: the row is only asked for.
        for (int day = 0; day < 10; day++) {
            x.setWeather(day, 9);
        }
        Checks.due(2, x::bestRow);
    }

    private static void fullChart() {
        SwathSurvey x = new SwathSurvey();
        x.addGauge(0);
        x.run('r', 2, 0, 19, 0, 0);
        x.run('r', 7, 0, 19, 0, 4);
        x.run('r', 11, 0, 18, 0, 8);
        Checks.due(238, x::charted);
        Checks.due(1019, () -> x.gap(0));
        Checks.due(9, x::bestRow);
        Checks.due(3, () -> x.run('r', 11, 19, 19, 0, 12));
        Checks.due(240, x::charted);
        Checks.due(1.0f, x::chartedShare);
        Checks.due(Checks.MISSING, () -> x.gap(0));
        Checks.due(Checks.STATE, x::bestRow);
    }

    private static void means() {
        SwathSurvey x = new SwathSurvey();
        x.addGauge(0);
        for (int column = 0; column < 5; column++) {
            x.setFloor(column, 0, 9);
        }
        x.setFloor(4, 0, 8);
        x.run('r', 0, 0, 4, 0, 0);
        Checks.due(44.0 / 5.0, x::meanDepth);
        Checks.due(5.0f / 240.0f, x::chartedShare);
        x.disturb(0, 2, 0, -12);
        Checks.due(35.0 / 4.0, x::meanDepth);
        for (int cell = 0; cell < 5; cell++) {
            x.disturb(0, cell, 0, -10);
        }
        Checks.due(-6.0 / 5.0, x::meanDepth);
    }
}
