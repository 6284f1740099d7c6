/** The boundary cases of crossings, the hire and the text, a test for each sentence (promises 26 to 32, 35 and 36). */
final class SurveyEdgeTest {
    private SurveyEdgeTest() {
    }

    public static void main(String[] args) {
        linesAreCountedFrom0To16();
        linesHaveDaysFrom0To9();
        linesToRunAreCountedFromNoneToAll();
        waysCrossAtTheirEnds();
        waysThatEndBeforeDoNotCross();
        linesOfTheSameKindDoNotCross();
        aCrossingIsThatOfTheFirstMinusTheOther();
        aCrossingIsInTheShipsOwnCells();
        bothSoundingsOfACrossingAreReduced();
        theWorstCrossingIsWithoutItsSign();
        theWorstCrossingIsOfReducedPairs();
        withoutACrossingThereIsNoWorst();
        theShipSoundsIn0To24HoursOfADay();
        withoutALineTheHireIs0();
        daysCountUpToTheLastOne();
        weatherOf4CostsNoMore();
        aDayWithALineCostsTheSameInAnyWeather();
        hoursBeyond10CostMore();
        aLineCountsForTheDayOnWhichItWasRunLast();
        theTextIsEmptyAtFirst();
        theShortestAndTheLongestText();
        theTextSaysGoodPartOrBad();
        aTextTakesThePlaceOfTheOneBefore();
        theTextStaysUntilItIsWrittenAgain();
        the512thCallIsAnsweredAsTheFirst();
        Checks.end("SurveyEdgeTest");
    }

    private static void dueText(SwathSurvey x, String want, int line) {
        Checks.due(want.length(), () -> x.writeLine(line));
        dueKept(x, want);
    }

    private static void dueKept(SwathSurvey x, String want) {
        for (int number = 0; number < want.length(); number++) {
            int index = number;
            Checks.due(want.charAt(index), () -> x.textAt(index));
        }
        Checks.due(Checks.INDEX, () -> x.textAt(want.length()));
        Checks.due(Checks.INDEX, () -> x.textAt(-1));
    }

    /** "Returns the number of lines." */
    private static void linesAreCountedFrom0To16() {
        SwathSurvey x = new SwathSurvey();
        Checks.due(0, x::lines);
        for (int number = 0; number < 16; number++) {
            x.run('r', 0, 0, 0, 0, number);
            Checks.due(number + 1, x::lines);
        }
        Checks.due(Checks.STATE, () -> x.run('r', 0, 0, 0, 0, 16));
        x.runAnew(15, 9, 0);
        Checks.due(16, x::lines);
    }

    /** "Returns the day on which a line was run." */
    private static void linesHaveDaysFrom0To9() {
        SwathSurvey x = new SwathSurvey();
        Checks.due(Checks.MISSING, () -> x.dayOf(0));
        x.run('r', 0, 0, 0, 9, 0);
        x.run('r', 0, 0, 0, 0, 0);
        Checks.due(9, () -> x.dayOf(0));
        Checks.due(0, () -> x.dayOf(1));
        Checks.due(Checks.MISSING, () -> x.dayOf(2));
        Checks.due(Checks.MISSING, () -> x.dayOf(-1));
        x.runAnew(0, 4, 0);
        Checks.due(4, () -> x.dayOf(0));
        Checks.due(0, () -> x.dayOf(1));
        Checks.due(Checks.INDEX, () -> x.runAnew(0, 10, 0));
        Checks.due(4, () -> x.dayOf(0));
    }

    /** "Returns how many lines have soundings that are not reduced." */
    private static void linesToRunAreCountedFromNoneToAll() {
        SwathSurvey x = new SwathSurvey();
        Checks.due(0, x::toRun);
        for (int number = 0; number < 16; number++) {
            x.run('r', 0, 0, 0, 0, number);
            Checks.due(number + 1, x::toRun);
        }
        x.addGauge(0);
        Checks.due(0, x::toRun);
        x.fail(0, 0, 15, 24);
        Checks.due(1, x::toRun);
        x.fail(0, 0, 0, 1);
        Checks.due(2, x::toRun);
        x.fail(0, 0, 0, 24);
        Checks.due(16, x::toRun);
        x.mend(0, 0);
        Checks.due(0, x::toRun);
        // One lost sounding of 26 is enough.
        SwathSurvey y = new SwathSurvey();
        y.addGauge(0);
        y.setFloor(5, 3, 9);
        y.run('r', 3, 0, 5, 0, 0);
        Checks.due(0, y::toRun);
        y.fail(0, 0, 1, 24);
        Checks.due(1, () -> y.lost(0));
        Checks.due(1, y::toRun);
    }

    /** "... where they cross: one line along a row and one along a column, in the cell of both ways." */
    private static void waysCrossAtTheirEnds() {
        SwathSurvey x = new SwathSurvey();
        x.addGauge(0);
        x.run('r', 5, 4, 9, 0, 0);
        x.run('c', 4, 5, 9, 0, 2);
        x.run('c', 9, 0, 5, 0, 4);
        x.run('c', 4, 9, 5, 0, 6);
        x.run('c', 9, 5, 0, 0, 7);
        x.run('c', 6, 5, 5, 0, 9);
        x.run('r', 5, 9, 4, 0, 10);
        x.run('r', 9, 4, 4, 0, 12);
        for (int number = 1; number <= 5; number++) {
            int other = number;
            Checks.due(0, () -> x.cross(0, other));
            Checks.due(0, () -> x.cross(other, 0));
            Checks.due(0, () -> x.cross(6, other));
        }
        Checks.due(0, () -> x.cross(7, 1));
        Checks.due(0, () -> x.cross(7, 3));
        x.disturb(0, 0, 0, 1);
        x.disturb(0, 5, 0, 2);
        x.disturb(0, 2, 0, 4);
        Checks.due(1, () -> x.cross(0, 1));
        Checks.due(1, () -> x.cross(0, 3));
        Checks.due(2, () -> x.cross(0, 2));
        Checks.due(2, () -> x.cross(0, 4));
        Checks.due(4, () -> x.cross(0, 5));
        // The corners of the chart are cells of ways like others.
        SwathSurvey y = new SwathSurvey();
        y.addGauge(0);
        y.run('r', 0, 0, 19, 0, 0);
        y.run('r', 11, 19, 0, 0, 4);
        y.run('c', 0, 0, 11, 0, 8);
        y.run('c', 19, 11, 0, 0, 12);
        for (int along = 0; along < 2; along++) {
            int line = along;
            Checks.due(0, () -> y.cross(line, 2));
            Checks.due(0, () -> y.cross(3, line));
        }
    }

    private static void waysThatEndBeforeDoNotCross() {
        SwathSurvey x = new SwathSurvey();
        x.addGauge(0);
        x.run('r', 5, 4, 9, 0, 0);
        x.run('c', 3, 0, 11, 0, 2);
        x.run('c', 10, 0, 11, 0, 5);
        x.run('c', 6, 0, 4, 0, 8);
        x.run('c', 6, 11, 6, 0, 9);
        x.run('c', 6, 6, 6, 0, 11);
        for (int number = 1; number <= 5; number++) {
            int other = number;
            Checks.due(Checks.ARGUMENT, () -> x.cross(0, other));
            Checks.due(Checks.ARGUMENT, () -> x.cross(other, 0));
        }
        Checks.due(Checks.UNSUPPORTED, x::worstCross);
    }

    /** "... if both are the same, or of the same kind, or do not cross." */
    private static void linesOfTheSameKindDoNotCross() {
        SwathSurvey x = new SwathSurvey();
        x.addGauge(0);
        x.run('r', 5, 0, 9, 0, 0);
        x.run('r', 5, 0, 9, 0, 2);
        x.run('c', 5, 0, 9, 0, 4);
        x.run('c', 5, 0, 9, 0, 6);
        // A line of one cell is of one kind too.
        x.run('r', 5, 5, 5, 0, 8);
        x.run('c', 5, 5, 5, 0, 9);
        int[] kinds = {0, 0, 1, 1, 0, 1};
        for (int number = 0; number < 36; number++) {
            int line = number / 6;
            int other = number % 6;
            Checks.due(kinds[line] == kinds[other] ? Checks.ARGUMENT : 0, () -> x.cross(line, other));
        }
        Checks.due(Checks.MISSING, () -> x.cross(6, 6));
        Checks.due(Checks.MISSING, () -> x.cross(-1, -1));
        Checks.due(Checks.MISSING, () -> x.cross(0, 6));
        Checks.due(Checks.MISSING, () -> x.cross(6, 0));
    }

    /** "Returns the reduced depth of the ship's own cell by the first one minus that by the other one." */
    private static void aCrossingIsThatOfTheFirstMinusTheOther() {
        SwathSurvey x = new SwathSurvey();
        x.addGauge(0);
        x.run('r', 5, 9, 0, 0, 0);
        x.run('c', 2, 0, 11, 0, 2);
        x.disturb(0, 7, 0, 60);
        x.disturb(1, 5, 0, -60);
        Checks.due(120, () -> x.cross(0, 1));
        Checks.due(-120, () -> x.cross(1, 0));
        x.setWater(0, 1, 10);
        // Cell 7 of line 0 was sounded in the hour 1, cell 5 of line 1 in the hour 3.
        Checks.due(110, () -> x.cross(0, 1));
        x.setWater(0, 3, 30);
        Checks.due(140, () -> x.cross(0, 1));
        Checks.due(140, x::worstCross);
    }

    private static void aCrossingIsInTheShipsOwnCells() {
        SwathSurvey x = new SwathSurvey();
        x.addGauge(0);
        x.run('r', 5, 0, 9, 0, 0);
        x.run('c', 2, 0, 11, 0, 2);
        for (int side = -2; side <= 2; side++) {
            if (side != 0) {
                x.disturb(0, 2, side, 30);
                x.disturb(1, 5, side, -30);
            }
        }
        x.disturb(0, 5, 0, 11);
        x.disturb(1, 2, 0, 13);
        Checks.due(0, () -> x.cross(0, 1));
        Checks.due(0, x::worstCross);
        x.disturb(0, 2, 0, 6);
        Checks.due(true, () -> x.isSpike(0, 2, 0));
        // A spike is reduced, and what does not fit is to be seen.
        Checks.due(6, () -> x.cross(0, 1));
        Checks.due(6, x::worstCross);
    }

    /** "... if one of the two soundings is not reduced." */
    private static void bothSoundingsOfACrossingAreReduced() {
        SwathSurvey x = new SwathSurvey();
        x.run('r', 5, 0, 9, 0, 0);
        x.run('c', 2, 0, 11, 1, 0);
        Checks.due(Checks.UNSUPPORTED, () -> x.cross(0, 1));
        x.addGauge(0);
        Checks.due(0, () -> x.cross(0, 1));
        x.fail(0, 0, 0, 1);
        Checks.due(Checks.UNSUPPORTED, () -> x.cross(0, 1));
        Checks.due(Checks.UNSUPPORTED, () -> x.cross(1, 0));
        x.mend(0, 0);
        x.fail(0, 1, 0, 24);
        Checks.due(Checks.UNSUPPORTED, () -> x.cross(0, 1));
        Checks.due(Checks.UNSUPPORTED, () -> x.cross(1, 0));
        x.mend(0, 1);
        // Other cells may be lost: the crossing is in the first hour of line 0, in the second one of line 1.
        x.fail(0, 0, 1, 24);
        x.fail(0, 1, 0, 1);
        Checks.due(5 * 5, () -> x.lost(0));
        Checks.due(0, () -> x.cross(0, 1));
        Checks.due(0, () -> x.cross(1, 0));
    }

    /** "Returns the greatest difference, without its sign, of all pairs of lines that cross." */
    private static void theWorstCrossingIsWithoutItsSign() {
        SwathSurvey x = new SwathSurvey();
        x.addGauge(0);
        x.run('r', 5, 0, 9, 0, 0);
        x.run('c', 2, 0, 11, 0, 2);
        x.run('c', 7, 0, 11, 0, 5);
        Checks.due(0, x::worstCross);
        x.disturb(0, 2, 0, -9);
        x.disturb(0, 7, 0, 8);
        Checks.due(-9, () -> x.cross(0, 1));
        Checks.due(9, x::worstCross);
        x.disturb(0, 7, 0, 10);
        Checks.due(10, x::worstCross);
        x.disturb(0, 2, 0, -60);
        x.disturb(1, 5, 0, 60);
        Checks.due(120, x::worstCross);
        x.disturb(0, 2, 0, 60);
        x.disturb(1, 5, 0, -60);
        Checks.due(120, x::worstCross);
    }

    /** "... and whose soundings there are reduced." */
    private static void theWorstCrossingIsOfReducedPairs() {
        SwathSurvey x = new SwathSurvey();
        x.addGauge(0);
        x.run('r', 5, 0, 9, 0, 0);
        x.run('c', 2, 0, 11, 1, 0);
        x.run('c', 7, 0, 11, 2, 0);
        x.disturb(1, 5, 0, 50);
        x.disturb(2, 5, 0, -7);
        Checks.due(50, x::worstCross);
        x.fail(0, 1, 1, 24);
        Checks.due(7, x::worstCross);
        x.fail(0, 2, 1, 24);
        Checks.due(Checks.UNSUPPORTED, x::worstCross);
        x.mend(0, 1);
        Checks.due(50, x::worstCross);
        x.fail(0, 0, 0, 1);
        Checks.due(Checks.UNSUPPORTED, x::worstCross);
        x.mend(0, 2);
        Checks.due(7, x::worstCross);
    }

    /** "... if there is no such pair." */
    private static void withoutACrossingThereIsNoWorst() {
        SwathSurvey x = new SwathSurvey();
        Checks.due(Checks.UNSUPPORTED, x::worstCross);
        x.addGauge(0);
        x.run('r', 5, 0, 9, 0, 0);
        Checks.due(Checks.UNSUPPORTED, x::worstCross);
        x.run('r', 5, 0, 9, 0, 2);
        Checks.due(Checks.UNSUPPORTED, x::worstCross);
        x.run('c', 10, 0, 9, 0, 4);
        Checks.due(Checks.UNSUPPORTED, x::worstCross);
        x.run('c', 9, 5, 5, 0, 6);
        Checks.due(0, x::worstCross);
        // The first and the last of 16 lines are a pair too.
        SwathSurvey y = new SwathSurvey();
        y.addGauge(0);
        y.run('r', 5, 3, 3, 0, 0);
        for (int number = 1; number < 15; number++) {
            y.run('r', 5, 3, 3, 0, number);
        }
        Checks.due(Checks.UNSUPPORTED, y::worstCross);
        y.run('c', 3, 5, 5, 0, 15);
        Checks.due(0, y::worstCross);
        y.disturb(14, 0, 0, -3);
        Checks.due(3, y::worstCross);
        y.disturb(0, 0, 0, 4);
        Checks.due(4, y::worstCross);
    }

    /** "Returns in how many hours of a day the ship sounds." */
    private static void theShipSoundsIn0To24HoursOfADay() {
        SwathSurvey x = new SwathSurvey();
        for (int number = 0; number < 10; number++) {
            int day = number;
            Checks.due(0, () -> x.hours(day));
        }
        Checks.due(Checks.INDEX, () -> x.hours(-1));
        Checks.due(Checks.INDEX, () -> x.hours(10));
        for (int number = 0; number < 6; number++) {
            int line = number;
            x.run('r', 0, 0, 19, 9, 4 * line);
            Checks.due(4 * line + 4, () -> x.hours(9));
        }
        Checks.due(0, () -> x.hours(8));
        Checks.due(Checks.STATE, () -> x.run('r', 0, 0, 0, 9, 0));
        Checks.due(Checks.STATE, () -> x.run('r', 0, 0, 0, 9, 23));
        x.run('r', 0, 0, 4, 0, 0);
        x.run('r', 0, 0, 5, 0, 1);
        Checks.due(3, () -> x.hours(0));
        x.runAnew(6, 1, 0);
        Checks.due(2, () -> x.hours(0));
        Checks.due(1, () -> x.hours(1));
    }

    /** "Returns the sum over all days that count, 0 if no line was run." */
    private static void withoutALineTheHireIs0() {
        SwathSurvey x = new SwathSurvey();
        Checks.due(0L, x::hire);
        x.setWeather(0, 9);
        Checks.due(0L, x::hire);
        Checks.due(Checks.UNSUPPORTED, () -> x.run('r', 0, 0, 0, 0, 0));
        Checks.due(0L, x::hire);
        x.setWeather(0, 4);
        x.run('r', 0, 0, 0, 0, 0);
        Checks.due(1000L, x::hire);
    }

    /** "Days count from 0 up to the last day on which a line was run." */
    private static void daysCountUpToTheLastOne() {
        for (int number = 0; number < 10; number++) {
            SwathSurvey x = new SwathSurvey();
            x.run('r', 0, 0, 0, number, 23);
            Checks.due(1000L + 200 * number, x::hire);
            // A day behind the last one costs nothing, in any weather.
            if (number < 9) {
                x.setWeather(number + 1, 9);
                Checks.due(1000L + 200 * number, x::hire);
            }
            if (number > 0) {
                x.setWeather(0, 9);
                Checks.due(1400L + 200 * number, x::hire);
                x.setWeather(number - 1, 9);
                Checks.due(number == 1 ? 1600L : 1800L + 200 * number, x::hire);
            }
        }
        SwathSurvey x = new SwathSurvey();
        for (int number = 0; number < 10; number++) {
            x.run('r', 0, 0, 0, 9 - number, 0);
        }
        Checks.due(10000L, x::hire);
    }

    /** "... 600 if its weather is worse than 4, and 200 otherwise." */
    private static void weatherOf4CostsNoMore() {
        SwathSurvey x = new SwathSurvey();
        x.run('r', 0, 0, 0, 1, 0);
        for (int force = 0; force <= 9; force++) {
            x.setWeather(0, force);
            Checks.due(force <= 4 ? 1200L : 1600L, x::hire);
        }
    }

    private static void aDayWithALineCostsTheSameInAnyWeather() {
        SwathSurvey x = new SwathSurvey();
        x.run('r', 0, 0, 0, 0, 0);
        for (int force = 0; force <= 9; force++) {
            x.setWeather(0, force);
            Checks.due(1000L, x::hire);
        }
    }

    /** "... costs 1000, and 40 more for each hour beyond 10 in which the ship sounds on it." */
    private static void hoursBeyond10CostMore() {
        SwathSurvey x = new SwathSurvey();
        x.run('r', 0, 0, 19, 2, 0);
        x.run('r', 0, 0, 19, 2, 4);
        Checks.due(1400L, x::hire);
        for (int number = 8; number < 20; number++) {
            int hour = number;
            x.run('r', 0, 0, 0, 2, hour);
            Checks.due(hour + 1, () -> x.hours(2));
            Checks.due(hour < 10 ? 1400L : 1440L + 40 * (hour - 10), x::hire);
        }
        x.run('r', 0, 0, 19, 2, 20);
        Checks.due(24, () -> x.hours(2));
        Checks.due(1960L, x::hire);
        x.run('r', 0, 0, 19, 3, 0);
        // The hours of two days are not put together.
        Checks.due(2960L, x::hire);
    }

    /** "A line counts for the day on which it was run last." */
    private static void aLineCountsForTheDayOnWhichItWasRunLast() {
        SwathSurvey x = new SwathSurvey();
        x.run('r', 0, 0, 19, 9, 0);
        x.run('r', 0, 0, 19, 2, 0);
        Checks.due(2000L + 8 * 200, x::hire);
        x.runAnew(0, 2, 4);
        Checks.due(1000L + 2 * 200, x::hire);
        x.runAnew(1, 0, 0);
        Checks.due(2000L + 200, x::hire);
        x.setWeather(1, 5);
        x.setWeather(2, 5);
        Checks.due(2000L + 600, x::hire);
        x.runAnew(0, 0, 4);
        Checks.due(1000L, x::hire);
        x.runAnew(0, 9, 20);
        Checks.due(2000L + 2 * 600 + 6 * 200, x::hire);
    }

    /** "Returns a character of the text, which is empty at first." */
    private static void theTextIsEmptyAtFirst() {
        SwathSurvey x = new SwathSurvey();
        dueKept(x, "");
        x.run('r', 3, 0, 19, 2, 8);
        dueKept(x, "");
        Checks.due(Checks.MISSING, () -> x.writeLine(1));
        Checks.due(Checks.MISSING, () -> x.writeLine(-1));
        dueKept(x, "");
        dueText(x, "r3:0-19@2/8 bad", 0);
        Checks.due(Checks.INDEX, () -> x.textAt(Integer.MAX_VALUE));
        Checks.due(Checks.INDEX, () -> x.textAt(Integer.MIN_VALUE));
    }

    private static void theShortestAndTheLongestText() {
        SwathSurvey x = new SwathSurvey();
        x.run('r', 0, 0, 0, 0, 0);
        x.run('r', 11, 19, 10, 9, 22);
        x.run('c', 19, 11, 10, 9, 21);
        x.run('c', 10, 0, 11, 5, 10);
        x.run('r', 10, 9, 10, 0, 9);
        dueText(x, "r0:0-0@0/0 bad", 0);
        dueText(x, "r11:19-10@9/22 bad", 1);
        dueText(x, "c19:11-10@9/21 bad", 2);
        dueText(x, "c10:0-11@5/10 bad", 3);
        dueText(x, "r10:9-10@0/9 bad", 4);
        x.addGauge(0);
        x.fail(0, 9, 23, 24);
        dueText(x, "r11:19-10@9/22 part", 1);
        dueText(x, "c19:11-10@9/21 good", 2);
        dueText(x, "r0:0-0@0/0 good", 0);
        x.runAnew(0, 8, 23);
        dueText(x, "r0:0-0@8/23 good", 0);
    }

    /** "... "good" if all of its soundings are reduced, "bad" if none is, "part" otherwise." */
    private static void theTextSaysGoodPartOrBad() {
        SwathSurvey x = new SwathSurvey();
        x.setFloor(5, 3, 9);
        x.run('r', 3, 0, 5, 2, 8);
        dueText(x, "r3:0-5@2/8 bad", 0);
        x.addGauge(0);
        dueText(x, "r3:0-5@2/8 good", 0);
        // One of 26 is lost, then all but one.
        x.fail(0, 2, 9, 16);
        Checks.due(1, () -> x.lost(0));
        dueText(x, "r3:0-5@2/8 part", 0);
        x.mend(0, 2);
        x.fail(0, 2, 2, 9);
        Checks.due(25, () -> x.lost(0));
        dueText(x, "r3:0-5@2/8 part", 0);
        x.fail(0, 2, 9, 10);
        dueText(x, "r3:0-5@2/8 bad", 0);
        // Spikes are reduced.
        x.mend(0, 2);
        x.disturb(0, 2, 0, 60);
        dueText(x, "r3:0-5@2/8 good", 0);
    }

    /** "Writes a text about a line, in place of the text before." */
    private static void aTextTakesThePlaceOfTheOneBefore() {
        SwathSurvey x = new SwathSurvey();
        x.run('c', 12, 10, 11, 2, 10);
        x.run('r', 1, 2, 3, 4, 5);
        dueText(x, "c12:10-11@2/10 bad", 0);
        dueText(x, "r1:2-3@4/5 bad", 1);
        Checks.due(Checks.INDEX, () -> x.textAt(17));
        dueText(x, "c12:10-11@2/10 bad", 0);
        dueText(x, "c12:10-11@2/10 bad", 0);
    }

    private static void theTextStaysUntilItIsWrittenAgain() {
        SwathSurvey x = new SwathSurvey();
        x.run('r', 1, 2, 3, 4, 5);
        dueText(x, "r1:2-3@4/5 bad", 0);
        x.addGauge(0);
        x.runAnew(0, 5, 6);
        dueKept(x, "r1:2-3@4/5 bad");
        Checks.due(Checks.MISSING, () -> x.writeLine(1));
        dueKept(x, "r1:2-3@4/5 bad");
        dueText(x, "r1:2-3@5/6 good", 0);
    }

    /** "An object is used for at most 512 calls after it has been made." */
    private static void the512thCallIsAnsweredAsTheFirst() {
        SwathSurvey x = new SwathSurvey();
        Checks.due(0, () -> x.addGauge(0));
        for (int number = 2; number <= 511; number++) {
            int height = number % 31;
            Checks.due(number == 2 ? 0 : (number - 1) % 31, () -> x.setWater(0, 0, height));
        }
        Checks.due(511 % 31, () -> x.told(0, 0, 0));
    }
}
