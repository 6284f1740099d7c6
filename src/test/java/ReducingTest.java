/** Promises 17 to 20: reduced soundings, spikes and what is lost. */
final class ReducingTest {
    private ReducingTest() {
    }

    public static void main(String[] args) {
        reducing();
        reducingByTheGaugesAsTheyAreNow();
        spikes();
        spikesOfOneCell();
        spikesBesideLostCells();
        losing();
        widestSwaths();
        tidesOfTheShip();
        refusing();
        Checks.end("ReducingTest");
    }

    private static void reducing() {
        SwathSurvey x = new SwathSurvey();
        x.setSlope(0, 2);
        x.setWater(0, 0, 12);
        x.run('c', 6, 0, 11, 0, 0);
        Checks.due(Checks.UNSUPPORTED, () -> x.reduced(0, 0, 0));
        x.addGauge(2);
        // Sounded 20 + 15; the only gauge tells 13 in its own column.
        Checks.due(22, () -> x.reduced(0, 0, 0));
        Checks.due(22, () -> x.reduced(0, 4, -2));
        Checks.due(22, () -> x.reduced(0, 5, 2));
        x.disturb(0, 0, 0, -60);
        Checks.due(-38, () -> x.reduced(0, 0, 0));
        x.addGauge(6);
        Checks.due(-40, () -> x.reduced(0, 0, 0));
        Checks.due(20, () -> x.reduced(0, 4, 2));
    }

    private static void reducingByTheGaugesAsTheyAreNow() {
        SwathSurvey x = new SwathSurvey();
        x.addGauge(0);
        x.run('r', 0, 0, 9, 3, 10);
        x.setWater(3, 11, 8);
        Checks.due(20, () -> x.reduced(0, 4, 0));
        Checks.due(12, () -> x.reduced(0, 5, 0));
        Checks.due(12, () -> x.depth(5, 0));
        x.setSlope(3, 2);
        Checks.due(12, () -> x.reduced(0, 5, 0));
        x.fail(0, 3, 11, 12);
        Checks.due(20, () -> x.reduced(0, 5, 0));
        x.fail(0, 3, 6, 18);
        Checks.due(Checks.UNSUPPORTED, () -> x.reduced(0, 5, 0));
        Checks.due(Checks.UNSUPPORTED, () -> x.depth(5, 0));
        x.mend(0, 3);
        Checks.due(12, () -> x.reduced(0, 5, 0));
        x.runAnew(0, 3, 10);
        Checks.due(20 + 8 + 2 - 8, () -> x.reduced(0, 5, 0));
    }

    private static void spikes() {
        SwathSurvey x = new SwathSurvey();
        x.addGauge(0);
        x.run('r', 5, 0, 9, 0, 0);
        Checks.due(0, () -> x.spikes(0));
        x.disturb(0, 4, 1, 5);
        Checks.due(false, () -> x.isSpike(0, 4, 1));
        x.disturb(0, 4, 1, 6);
        Checks.due(true, () -> x.isSpike(0, 4, 1));
        Checks.due(false, () -> x.isSpike(0, 3, 1));
        Checks.due(false, () -> x.isSpike(0, 5, 1));
        Checks.due(false, () -> x.isSpike(0, 4, 0));
        Checks.due(1, () -> x.spikes(0));
        x.disturb(0, 4, 1, -6);
        Checks.due(true, () -> x.isSpike(0, 4, 1));
        x.disturb(0, 4, 1, -5);
        Checks.due(false, () -> x.isSpike(0, 4, 1));
        x.disturb(0, 4, 1, 20);
        x.disturb(0, 5, 1, 15);
        Checks.due(false, () -> x.isSpike(0, 4, 1));
        Checks.due(false, () -> x.isSpike(0, 5, 1));
        x.disturb(0, 5, 1, 14);
        Checks.due(true, () -> x.isSpike(0, 4, 1));
        Checks.due(true, () -> x.isSpike(0, 5, 1));
        Checks.due(2, () -> x.spikes(0));
        x.disturb(0, 0, -2, 6);
        x.disturb(0, 9, 2, -6);
        Checks.due(true, () -> x.isSpike(0, 0, -2));
        Checks.due(true, () -> x.isSpike(0, 9, 2));
        Checks.due(4, () -> x.spikes(0));
    }

    private static void spikesOfOneCell() {
        SwathSurvey x = new SwathSurvey();
        x.addGauge(0);
        x.run('r', 5, 3, 3, 0, 0);
        x.disturb(0, 0, 0, 60);
        Checks.due(false, () -> x.isSpike(0, 0, 0));
        Checks.due(80, () -> x.depth(3, 5));
        // A cell without a reach leaves its neighbours across without neighbours.
        x.setFloor(8, 1, 9);
        x.run('r', 1, 7, 8, 0, 1);
        x.disturb(1, 0, 1, 60);
        Checks.due(false, () -> x.isSpike(1, 0, 1));
        Checks.due(true, () -> x.isSpike(1, 0, 0));
        Checks.due(true, () -> x.isSpike(1, 1, 0));
        Checks.due(2, () -> x.spikes(1));
    }

    private static void spikesBesideLostCells() {
        SwathSurvey x = new SwathSurvey();
        x.addGauge(0);
        x.run('r', 5, 0, 19, 0, 0);
        x.disturb(0, 5, 0, 30);
        x.disturb(0, 4, 0, 30);
        Checks.due(false, () -> x.isSpike(0, 5, 0));
        // The first 5 cells are lost then, so that only cell 6 speaks for cell 5.
        x.fail(0, 0, 0, 1);
        Checks.due(true, () -> x.isSpike(0, 5, 0));
        Checks.due(false, () -> x.isSpike(0, 4, 0));
        Checks.due(1, () -> x.spikes(0));
        x.fail(0, 0, 0, 24);
        Checks.due(false, () -> x.isSpike(0, 5, 0));
        Checks.due(0, () -> x.spikes(0));
    }

    private static void losing() {
        SwathSurvey x = new SwathSurvey();
        x.run('r', 0, 0, 9, 0, 0);
        Checks.due(30, () -> x.lost(0));
        x.addGauge(0);
        Checks.due(0, () -> x.lost(0));
        x.fail(0, 0, 0, 1);
        Checks.due(15, () -> x.lost(0));
        x.fail(0, 0, 0, 2);
        Checks.due(30, () -> x.lost(0));
        x.mend(0, 0);
        x.fail(0, 0, 1, 6);
        Checks.due(0, () -> x.lost(0));
        x.fail(0, 0, 1, 7);
        Checks.due(15, () -> x.lost(0));
    }

    private static void widestSwaths() {
        SwathSurvey x = new SwathSurvey();
        for (int column = 3; column < 8; column++) {
            x.setFloor(column, 5, 30);
        }
        x.run('r', 5, 3, 7, 0, 0);
        Checks.due(35, () -> x.lost(0));
        x.addGauge(0);
        Checks.due(0, () -> x.lost(0));
        for (int side : new int[] {-3, 3}) {
            Checks.due(20, () -> x.reduced(0, 2, side));
            Checks.due(20, () -> x.depth(5, 5 + side));
            x.disturb(0, 2, side, 9);
            Checks.due(29, () -> x.reduced(0, 2, side));
            Checks.due(true, () -> x.isSpike(0, 2, side));
            Checks.due(Checks.UNSUPPORTED, () -> x.depth(5, 5 + side));
        }
        Checks.due(2, () -> x.spikes(0));
        Checks.due(33, x::charted);
    }

    private static void tidesOfTheShip() {
        SwathSurvey x = new SwathSurvey();
        x.setSlope(0, 2);
        x.addGauge(2);
        x.addGauge(12);
        x.run('c', 7, 0, 4, 0, 0);
        // In column 7: water 3, tide 1 + 5 * 5 / 10; in column 8 the tide would be 4.
        for (int side = -2; side <= 2; side++) {
            int asked = side;
            Checks.due(20, () -> x.reduced(0, 2, asked));
        }
        x.fail(0, 0, 0, 24);
        Checks.due(17, () -> x.reduced(0, 2, 2));
    }

    private static void refusing() {
        SwathSurvey x = new SwathSurvey();
        Checks.due(Checks.MISSING, () -> x.reduced(0, 0, 0));
        Checks.due(Checks.MISSING, () -> x.isSpike(0, 0, 0));
        Checks.due(Checks.MISSING, () -> x.spikes(0));
        Checks.due(Checks.MISSING, () -> x.lost(0));
        x.run('r', 6, 7, 9, 0, 0);
        for (int line : new int[] {-1, 1, 16, Integer.MIN_VALUE, Integer.MAX_VALUE}) {
            Checks.due(Checks.MISSING, () -> x.reduced(line, 9, 9));
            Checks.due(Checks.MISSING, () -> x.isSpike(line, 9, 9));
            Checks.due(Checks.MISSING, () -> x.spikes(line));
            Checks.due(Checks.MISSING, () -> x.lost(line));
        }
        for (int[] place : new int[][] {{-1, 0}, {3, 0}, {0, 3}, {0, -3}, {1, -7}, {1, Integer.MAX_VALUE}}) {
            Checks.due(Checks.INDEX, () -> x.reduced(0, place[0], place[1]));
            Checks.due(Checks.INDEX, () -> x.isSpike(0, place[0], place[1]));
        }
        Checks.due(Checks.UNSUPPORTED, () -> x.reduced(0, 0, 0));
        Checks.due(false, () -> x.isSpike(0, 0, 0));
    }
}
