/** All that a survey answers to calls that only look. */
final class Snapshot {
    private Snapshot() {
    }

    static String of(SwathSurvey survey) {
        StringBuilder all = new StringBuilder();
        addText(all, survey);
        addWater(all, survey);
        addLines(all, survey);
        addChart(all, survey);
        addWhole(all, survey);
        return all.toString();
    }

    private static void add(StringBuilder all, Checks.Call call) {
        all.append(Checks.answerOf(call)).append(' ');
    }

    private static void addText(StringBuilder all, SwathSurvey survey) {
        for (int index = 0; index < 30; index++) {
            int asked = index;
            add(all, () -> survey.textAt(asked));
        }
    }

    private static void addWater(StringBuilder all, SwathSurvey survey) {
        for (int number = 0; number < 240; number++) {
            int day = number / 24;
            int hour = number % 24;
            for (int place = 0; place < 20; place += 3) {
                int column = place;
                add(all, () -> survey.waterAt(column, day, hour));
                add(all, () -> survey.tide(column, day, hour));
            }
            for (int one = 0; one < 4; one++) {
                int gauge = one;
                add(all, () -> survey.told(gauge, day, hour));
            }
        }
    }

    private static void addLines(StringBuilder all, SwathSurvey survey) {
        for (int number = 0; number < 17; number++) {
            int line = number;
            add(all, () -> survey.dayOf(line));
            add(all, () -> survey.soundings(line));
            add(all, () -> survey.spikes(line));
            add(all, () -> survey.lost(line));
            for (int other = 0; other < 17; other++) {
                int second = other;
                add(all, () -> survey.cross(line, second));
            }
            for (int slot = 0; slot < 140 && line < survey.lines(); slot++) {
                int cell = slot / 7;
                int side = slot % 7 - 3;
                add(all, () -> survey.sounding(line, cell, side));
                add(all, () -> survey.reduced(line, cell, side));
                add(all, () -> survey.isSpike(line, cell, side));
            }
        }
    }

    private static void addChart(StringBuilder all, SwathSurvey survey) {
        for (int number = 0; number < 240; number++) {
            int index = number;
            int column = number % 20;
            int row = number / 20;
            add(all, () -> survey.depth(column, row));
            add(all, () -> survey.depthAnew(column, row));
            add(all, () -> survey.gap(index));
        }
    }

    private static void addWhole(StringBuilder all, SwathSurvey survey) {
        for (int number = 0; number < 10; number++) {
            int day = number;
            add(all, () -> survey.hours(day));
        }
        add(all, survey::charted);
        add(all, survey::bestRow);
        add(all, survey::lines);
        add(all, survey::toRun);
        add(all, survey::worstCross);
        add(all, survey::hire);
        add(all, survey::chartedShare);
        add(all, survey::meanDepth);
        add(all, survey::isSure);
    }
}
