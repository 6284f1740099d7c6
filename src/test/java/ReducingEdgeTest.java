/** The boundary cases of reducing and of spikes, a test for each sentence (promises 17 to 20). */
final class ReducingEdgeTest {
    private ReducingEdgeTest() {
    }

    public static void main(String[] args) {
        aSoundingIsReducedIfTheTideIsKnown();
        aSoundingIsReducedByTheTideInTheColumnOfTheShip();
        aSoundingIsReducedByTheTideInItsHour();
        aSoundingIsReducedByTheGaugesAsTheyAreNow();
        aReducedDepthMayBeBelow0();
        aDifferenceOf5IsNoSpike();
        aSpikeDiffersFromEachNeighbour();
        theFirstAndTheLastCellHaveOneNeighbour();
        aSingleCellHasNoNeighbour();
        aNeighbourIsOneCellBeforeOrBehind();
        aNeighbourIsOnTheSameSide();
        aNeighbourIsSounded();
        aNeighbourIsReduced();
        aNeighbourIsOfItsLine();
        spikesDependOnReducedDepths();
        whatIsNotReducedIsNoSpike();
        spikesAreCountedFromNoneToAll();
        lostSoundingsAreCountedFromNoneToAll();
        Checks.end("ReducingEdgeTest");
    }

    /** A line along row 5 from column 0 on, with 5 soundings in each cell, all reduced to 20. */
    private static SwathSurvey row(int cells) {
        SwathSurvey x = new SwathSurvey();
        x.addGauge(0);
        x.run('r', 5, 0, cells - 1, 0, 0);
        return x;
    }

    /** "A sounding is reduced by the tide ..., if this is known." */
    private static void aSoundingIsReducedIfTheTideIsKnown() {
        SwathSurvey x = new SwathSurvey();
        x.run('r', 5, 0, 4, 0, 23);
        Checks.due(Checks.UNSUPPORTED, () -> x.reduced(0, 0, 0));
        Checks.due(Checks.UNSUPPORTED, () -> x.reduced(0, 4, -2));
        Checks.due(20, () -> x.sounding(0, 4, -2));
        x.addGauge(19);
        Checks.due(20, () -> x.reduced(0, 0, 0));
        Checks.due(20, () -> x.reduced(0, 4, -2));
        x.fail(0, 0, 23, 24);
        Checks.due(Checks.UNSUPPORTED, () -> x.reduced(0, 0, 0));
        x.addGauge(0);
        Checks.due(20, () -> x.reduced(0, 0, 0));
        // There is no such sounding besides, and that is listed first.
        x.fail(1, 0, 23, 24);
        Checks.due(Checks.INDEX, () -> x.reduced(0, 5, 0));
        Checks.due(Checks.INDEX, () -> x.reduced(0, -1, 0));
        Checks.due(Checks.INDEX, () -> x.reduced(0, 4, 3));
        Checks.due(Checks.INDEX, () -> x.reduced(0, 4, -3));
        Checks.due(Checks.MISSING, () -> x.reduced(1, 5, 3));
    }

    /** "A sounding is reduced by the tide in the column of the ship." */
    private static void aSoundingIsReducedByTheTideInTheColumnOfTheShip() {
        SwathSurvey x = new SwathSurvey();
        x.setSlope(0, 2);
        x.addGauge(0);
        x.addGauge(19);
        x.run('c', 10, 0, 0, 0, 0);
        x.run('c', 5, 0, 0, 0, 1);
        x.run('r', 0, 10, 10, 0, 2);
        for (int side = -2; side <= 2; side++) {
            int asked = side;
            // The water is 5 in column 10, the tide 4, but 5 in column 11.
            Checks.due(21, () -> x.reduced(0, 0, asked));
            // The water and the tide are 2 in column 5, but the tide is 1 in column 4.
            Checks.due(20, () -> x.reduced(1, 0, asked));
            Checks.due(asked < 0 ? Checks.INDEX : 21, () -> x.reduced(2, 0, asked));
        }
    }

    /** "..., in its hour." */
    private static void aSoundingIsReducedByTheTideInItsHour() {
        SwathSurvey x = row(20);
        for (int hour = 0; hour < 4; hour++) {
            x.setWater(0, hour, 1 + hour);
        }
        for (int number = 0; number < 20; number++) {
            int cell = number;
            Checks.due(20 - 1 - cell / 5, () -> x.reduced(0, cell, 0));
            Checks.due(20 - 1 - cell / 5, () -> x.reduced(0, cell, 2));
        }
        x.setWater(0, 4, 30);
        x.setWater(1, 0, 30);
        Checks.due(16, () -> x.reduced(0, 19, 0));
        Checks.due(19, () -> x.reduced(0, 0, 0));
    }

    /** "... what is reduced, by the gauges as they are now." */
    private static void aSoundingIsReducedByTheGaugesAsTheyAreNow() {
        SwathSurvey x = new SwathSurvey();
        x.run('r', 5, 0, 4, 0, 10);
        x.addGauge(4);
        x.setWater(0, 9, 30);
        x.setWater(0, 11, 10);
        Checks.due(20, () -> x.reduced(0, 0, 0));
        x.fail(0, 0, 10, 11);
        Checks.due(0, () -> x.reduced(0, 0, 0));
        x.setWater(0, 9, 29);
        // 29 - 19 / 2, rounded down to 19.
        Checks.due(1, () -> x.reduced(0, 0, 0));
        x.fail(0, 0, 5, 10);
        Checks.due(Checks.UNSUPPORTED, () -> x.reduced(0, 0, 0));
        x.mend(0, 0);
        Checks.due(20, () -> x.reduced(0, 0, 0));
        x.setSlope(0, 2);
        Checks.due(18, () -> x.reduced(0, 0, 0));
        x.setSlope(0, 0);
        x.setWater(0, 10, 30);
        Checks.due(-10, () -> x.reduced(0, 0, 0));
        Checks.due(20, () -> x.sounding(0, 0, 0));
    }

    private static void aReducedDepthMayBeBelow0() {
        SwathSurvey x = new SwathSurvey();
        x.setFloor(19, 0, 1);
        x.setSlope(0, -2);
        x.run('r', 0, 19, 19, 0, 0);
        x.addGauge(19);
        x.disturb(0, 0, 0, -60);
        x.setSlope(0, 2);
        x.setWater(0, 0, 30);
        // 1 of floor, -10 of water, an error of -60 and a tide of 39.
        Checks.due(-108, () -> x.reduced(0, 0, 0));
        Checks.due(-108, () -> x.depth(19, 0));
        Checks.due(-108, () -> x.depthAnew(19, 0));
        Checks.due(-108.0, x::meanDepth);
        // The other way round: 99 of floor, 39 of water, an error of 60 and a tide of -10.
        SwathSurvey y = new SwathSurvey();
        y.setFloor(19, 0, 99);
        y.setSlope(0, 2);
        y.setWater(0, 0, 30);
        y.run('r', 0, 19, 19, 0, 0);
        y.addGauge(19);
        y.disturb(0, 0, 0, 60);
        y.setSlope(0, -2);
        y.setWater(0, 0, 0);
        Checks.due(208, () -> y.reduced(0, 0, 0));
        Checks.due(208, () -> y.depth(19, 0));
    }

    /** "... its reduced depth differs from that of each of them by more than 5." */
    private static void aDifferenceOf5IsNoSpike() {
        SwathSurvey x = row(5);
        for (int error = -60; error <= 60; error++) {
            x.disturb(0, 2, 0, error);
            Checks.due(error < -5 || error > 5, () -> x.isSpike(0, 2, 0));
        }
        x.disturb(0, 2, 0, 5);
        Checks.due(0, () -> x.spikes(0));
        Checks.due(25, () -> x.depth(2, 5));
        x.disturb(0, 2, 0, 6);
        Checks.due(1, () -> x.spikes(0));
        Checks.due(Checks.UNSUPPORTED, () -> x.depth(2, 5));
        x.disturb(0, 2, 0, -5);
        Checks.due(15, () -> x.depth(2, 5));
        x.disturb(0, 2, 0, -6);
        Checks.due(Checks.UNSUPPORTED, () -> x.depth(2, 5));
    }

    private static void aSpikeDiffersFromEachNeighbour() {
        SwathSurvey x = row(3);
        int[][] errorsOfNeighbours = {{14, 14, 1}, {15, 14, 0}, {14, 15, 0}, {15, 15, 0}, {26, 26, 1}, {25, 26, 0},
            {26, 25, 0}, {14, 26, 1}, {26, 14, 1}, {15, 26, 0}, {14, 25, 0}, {20, 0, 0}, {0, 20, 0}};
        x.disturb(0, 1, 0, 20);
        for (int[] errors : errorsOfNeighbours) {
            x.disturb(0, 0, 0, errors[0]);
            x.disturb(0, 2, 0, errors[1]);
            Checks.due(errors[2] == 1, () -> x.isSpike(0, 1, 0));
        }
    }

    /** "... if its line has one or two neighbours of it." */
    private static void theFirstAndTheLastCellHaveOneNeighbour() {
        SwathSurvey x = row(20);
        x.disturb(0, 0, 0, 6);
        x.disturb(0, 19, 0, -6);
        Checks.due(true, () -> x.isSpike(0, 0, 0));
        Checks.due(true, () -> x.isSpike(0, 19, 0));
        Checks.due(2, () -> x.spikes(0));
        x.disturb(0, 0, 0, 5);
        x.disturb(0, 19, 0, -5);
        Checks.due(false, () -> x.isSpike(0, 0, 0));
        Checks.due(false, () -> x.isSpike(0, 19, 0));
        // The same for a line of two cells: each is the only neighbour of the other.
        SwathSurvey y = row(2);
        y.disturb(0, 0, 0, 6);
        Checks.due(true, () -> y.isSpike(0, 0, 0));
        Checks.due(true, () -> y.isSpike(0, 1, 0));
        Checks.due(2, () -> y.spikes(0));
        y.disturb(0, 1, 0, 1);
        Checks.due(0, () -> y.spikes(0));
    }

    private static void aSingleCellHasNoNeighbour() {
        SwathSurvey x = row(1);
        for (int side = -2; side <= 2; side++) {
            x.disturb(0, 0, side, side % 2 == 0 ? 60 : -60);
        }
        for (int side = -2; side <= 2; side++) {
            int asked = side;
            Checks.due(false, () -> x.isSpike(0, 0, asked));
            Checks.due(asked % 2 == 0 ? 80 : -40, () -> x.depth(0, 5 + asked));
        }
        Checks.due(0, () -> x.spikes(0));
        Checks.due(5, x::charted);
    }

    /** "... sounded one cell before or behind on the way." */
    private static void aNeighbourIsOneCellBeforeOrBehind() {
        SwathSurvey x = row(7);
        x.disturb(0, 3, 0, 20);
        x.disturb(0, 1, 0, 20);
        x.disturb(0, 5, 0, 20);
        Checks.due(true, () -> x.isSpike(0, 3, 0));
        x.disturb(0, 4, 0, 20);
        Checks.due(false, () -> x.isSpike(0, 3, 0));
        Checks.due(false, () -> x.isSpike(0, 4, 0));
        Checks.due(false, () -> x.isSpike(0, 5, 0));
        Checks.due(true, () -> x.isSpike(0, 1, 0));
        x.disturb(0, 4, 0, 0);
        x.disturb(0, 2, 0, 20);
        Checks.due(false, () -> x.isSpike(0, 3, 0));
        Checks.due(true, () -> x.isSpike(0, 5, 0));
    }

    /** "... and as far across to the same side." */
    private static void aNeighbourIsOnTheSameSide() {
        SwathSurvey x = row(5);
        for (int cell = 0; cell < 5; cell++) {
            x.disturb(0, cell, -1, 20);
        }
        x.disturb(0, 2, 1, 20);
        x.disturb(0, 2, -2, 20);
        Checks.due(false, () -> x.isSpike(0, 2, -1));
        Checks.due(true, () -> x.isSpike(0, 2, 1));
        Checks.due(true, () -> x.isSpike(0, 2, -2));
        Checks.due(false, () -> x.isSpike(0, 2, 0));
        Checks.due(2, () -> x.spikes(0));
        // On a line that runs back, and along a column, the sides are those of the chart too.
        x.run('c', 10, 8, 6, 1, 0);
        x.disturb(1, 1, 2, 20);
        x.disturb(1, 0, -2, 20);
        Checks.due(true, () -> x.isSpike(1, 1, 2));
        Checks.due(false, () -> x.isSpike(1, 1, -2));
        Checks.due(true, () -> x.isSpike(1, 0, -2));
    }

    private static void aNeighbourIsSounded() {
        SwathSurvey x = new SwathSurvey();
        x.addGauge(0);
        x.setFloor(0, 5, 10);
        x.setFloor(1, 5, 20);
        x.setFloor(2, 5, 30);
        x.setFloor(3, 5, 29);
        x.run('r', 5, 0, 3, 0, 0);
        x.disturb(0, 2, 3, 60);
        x.disturb(0, 2, 2, 60);
        x.disturb(0, 1, 2, 60);
        x.disturb(0, 1, 1, 6);
        // Far to the side cell 2 sounds alone; with side 2 its neighbours are of the cells 1 and 3.
        Checks.due(false, () -> x.isSpike(0, 2, 3));
        Checks.due(false, () -> x.isSpike(0, 2, 2));
        Checks.due(false, () -> x.isSpike(0, 1, 2));
        Checks.due(true, () -> x.isSpike(0, 3, 2));
        Checks.due(true, () -> x.isSpike(0, 1, 1));
        Checks.due(80, () -> x.depth(2, 8));
    }

    /** "... which are reduced." */
    private static void aNeighbourIsReduced() {
        SwathSurvey x = row(10);
        x.disturb(0, 4, 0, 20);
        x.disturb(0, 5, 0, 20);
        Checks.due(0, () -> x.spikes(0));
        // With the hour 0 lost, only cell 6 is a neighbour of cell 5.
        x.fail(0, 0, 0, 1);
        Checks.due(true, () -> x.isSpike(0, 5, 0));
        Checks.due(1, () -> x.spikes(0));
        x.mend(0, 0);
        Checks.due(0, () -> x.spikes(0));
        // With the hour 1 lost, only cell 3 is a neighbour of cell 4.
        x.fail(0, 0, 1, 24);
        Checks.due(true, () -> x.isSpike(0, 4, 0));
        Checks.due(false, () -> x.isSpike(0, 5, 0));
        Checks.due(1, () -> x.spikes(0));
        // A cell whose only neighbour is lost has none.
        SwathSurvey y = row(6);
        y.disturb(0, 5, 0, 60);
        Checks.due(true, () -> y.isSpike(0, 5, 0));
        y.fail(0, 0, 0, 1);
        Checks.due(false, () -> y.isSpike(0, 5, 0));
        Checks.due(80, () -> y.depth(5, 5));
        Checks.due(5, y::charted);
    }

    private static void aNeighbourIsOfItsLine() {
        SwathSurvey x = row(1);
        x.run('r', 5, 1, 1, 1, 0);
        x.run('c', 0, 4, 6, 2, 0);
        x.disturb(0, 0, 0, 60);
        Checks.due(false, () -> x.isSpike(0, 0, 0));
        Checks.due(0, () -> x.spikes(0) + x.spikes(1) + x.spikes(2));
    }

    private static void spikesDependOnReducedDepths() {
        SwathSurvey x = row(10);
        // Between the cells 4 and 5 the tide changes, and what was sounded does not.
        x.setWater(0, 1, 5);
        Checks.due(0, () -> x.spikes(0));
        x.setWater(0, 1, 6);
        Checks.due(0, () -> x.spikes(0));
        x.disturb(0, 4, 0, 6);
        // Cell 4 differs by 6 from cell 3 and by 12 from cell 5.
        Checks.due(true, () -> x.isSpike(0, 4, 0));
        x.disturb(0, 4, 0, -6);
        Checks.due(false, () -> x.isSpike(0, 4, 0));
    }

    /** "Returns whether it is, false if it is not reduced." */
    private static void whatIsNotReducedIsNoSpike() {
        SwathSurvey x = new SwathSurvey();
        x.run('r', 5, 0, 2, 0, 0);
        x.disturb(0, 1, 0, 60);
        Checks.due(false, () -> x.isSpike(0, 1, 0));
        Checks.due(0, () -> x.spikes(0));
        x.addGauge(0);
        Checks.due(true, () -> x.isSpike(0, 1, 0));
        x.fail(0, 0, 0, 24);
        Checks.due(false, () -> x.isSpike(0, 1, 0));
        Checks.due(Checks.INDEX, () -> x.isSpike(0, 3, 0));
        Checks.due(Checks.INDEX, () -> x.isSpike(0, 1, 3));
        Checks.due(Checks.MISSING, () -> x.isSpike(1, 1, 0));
    }

    private static void spikesAreCountedFromNoneToAll() {
        SwathSurvey x = new SwathSurvey();
        x.addGauge(0);
        for (int column = 0; column < 20; column++) {
            x.setFloor(column, 5, 30);
        }
        x.run('r', 5, 0, 19, 0, 0);
        Checks.due(0, () -> x.spikes(0));
        for (int slot = 0; slot < 140; slot++) {
            x.disturb(0, slot / 7, slot % 7 - 3, slot / 7 % 2 == 0 ? 3 : -3);
        }
        Checks.due(140, () -> x.spikes(0));
        Checks.due(0, x::charted);
        Checks.due(0, () -> x.lost(0));
        // A difference of 5 then, for both cells.
        x.disturb(0, 0, 3, 2);
        Checks.due(138, () -> x.spikes(0));
        Checks.due(2, x::charted);
    }

    /** "Returns how many soundings of a line are not reduced." */
    private static void lostSoundingsAreCountedFromNoneToAll() {
        SwathSurvey x = new SwathSurvey();
        for (int column = 0; column < 20; column++) {
            x.setFloor(column, 5, 30);
        }
        x.run('r', 5, 0, 19, 0, 20);
        Checks.due(140, () -> x.lost(0));
        x.addGauge(0);
        Checks.due(0, () -> x.lost(0));
        x.fail(0, 0, 23, 24);
        Checks.due(35, () -> x.lost(0));
        x.fail(0, 0, 21, 22);
        Checks.due(35, () -> x.lost(0));
        x.fail(0, 0, 22, 23);
        Checks.due(105, () -> x.lost(0));
        x.fail(0, 0, 20, 21);
        Checks.due(140, () -> x.lost(0));
        x.mend(0, 0);
        Checks.due(0, () -> x.lost(0));
        // A spike is not lost.
        x.disturb(0, 5, 0, 60);
        Checks.due(0, () -> x.lost(0));
    }
}
