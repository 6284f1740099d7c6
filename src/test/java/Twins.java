import java.util.ArrayList;
import java.util.List;

/**
 * Surveys that are made alike: to some, calls are made that throw or that only look; then they answer every question as
 * those do that were left alone. Each round of questions goes to a survey of its own, so that none comes to its 513th
 * call.
 */
final class Twins {
    interface Maker {
        SwathSurvey make();
    }

    interface Question {
        Object ask(SwathSurvey survey);
    }

    private static final int BATCH = 30;

    private final Maker maker;
    private final List<List<Question>> rounds;
    private final List<List<String>> leftAlone = new ArrayList<>();
    private final List<Question> batch = new ArrayList<>();
    private String firstCaller = "";

    Twins(Maker maker) {
        this.maker = maker;
        rounds = allRounds(maker.make().lines());
        for (List<Question> round : rounds) {
            leftAlone.add(answers(maker.make(), round));
        }
    }

    /** The call throws this; that it changes nothing is seen with the others of its batch. */
    void refuse(String want, Question call) {
        SwathSurvey survey = maker.make();
        Checks.due(want, () -> call.ask(survey));
        look(call);
    }

    /** The call changes nothing, whatever it answers. */
    void look(Question call) {
        if (batch.isEmpty()) {
            firstCaller = Checks.caller();
        }
        batch.add(call);
        if (batch.size() >= BATCH) {
            end();
        }
    }

    /** Compares what all calls since the last time have left. */
    void end() {
        for (int number = 0; number < rounds.size() && !batch.isEmpty(); number++) {
            SwathSurvey survey = maker.make();
            answers(survey, batch);
            List<String> after = answers(survey, rounds.get(number));
            if (!after.equals(leftAlone.get(number))) {
                Checks.wrong("a call from " + firstCaller + " to " + Checks.caller()
                    + " changed answers of round " + number);
            }
        }
        batch.clear();
    }

    private static List<String> answers(SwathSurvey survey, List<Question> questions) {
        List<String> answers = new ArrayList<>();
        for (Question question : questions) {
            answers.add(Checks.answerOf(() -> question.ask(survey)));
        }
        return answers;
    }

    // Some rounds set what they ask: the answer is what was there before.

    private static List<List<Question>> allRounds(int lines) {
        List<List<Question>> all = new ArrayList<>();
        all.add(whole());
        all.add(crossings());
        all.add(heights());
        all.add(tides());
        for (int gauge = 0; gauge < 3; gauge++) {
            all.add(failures(gauge));
        }
        all.add(floors());
        all.add(sea());
        all.add(depths());
        all.add(depthsAnew());
        all.add(texts());
        for (int line = 0; line < lines; line++) {
            all.add(soundings(line));
        }
        return all;
    }

    private static List<Question> whole() {
        List<Question> round = new ArrayList<>();
        for (int number = 0; number < 24; number++) {
            int asked = number;
            round.add(x -> x.textAt(asked));
            round.add(x -> x.gap(asked));
            round.add(x -> x.hours(asked));
            round.add(x -> x.dayOf(asked));
            round.add(x -> x.soundings(asked));
            round.add(x -> x.spikes(asked));
            round.add(x -> x.lost(asked));
        }
        round.add(SwathSurvey::charted);
        round.add(SwathSurvey::bestRow);
        round.add(SwathSurvey::lines);
        round.add(SwathSurvey::toRun);
        round.add(SwathSurvey::worstCross);
        round.add(SwathSurvey::hire);
        round.add(SwathSurvey::chartedShare);
        round.add(SwathSurvey::meanDepth);
        round.add(SwathSurvey::isSure);
        return round;
    }

    private static List<Question> crossings() {
        List<Question> round = new ArrayList<>();
        for (int number = 0; number < 17 * 17; number++) {
            int line = number / 17;
            int other = number % 17;
            round.add(x -> x.cross(line, other));
        }
        return round;
    }

    private static List<Question> heights() {
        List<Question> round = new ArrayList<>();
        for (int number = 0; number < 240; number++) {
            int day = number / 24;
            int hour = number % 24;
            round.add(x -> x.waterAt(0, day, hour));
        }
        for (int number = 0; number < 10; number++) {
            int day = number;
            round.add(x -> x.waterAt(19, day, 0));
        }
        return round;
    }

    private static List<Question> tides() {
        List<Question> round = new ArrayList<>();
        for (int number = 0; number < 240; number++) {
            int day = number / 24;
            int hour = number % 24;
            round.add(x -> x.tide(9, day, hour));
        }
        for (int column = 0; column < 20; column++) {
            int asked = column;
            round.add(x -> x.tide(asked, 0, 6));
        }
        return round;
    }

    private static List<Question> failures(int gauge) {
        List<Question> round = new ArrayList<>();
        for (int number = 0; number < 240; number++) {
            int day = number / 24;
            int hour = number % 24;
            round.add(x -> x.fail(gauge, day, hour, hour + 1));
        }
        return round;
    }

    private static List<Question> floors() {
        List<Question> round = new ArrayList<>();
        for (int number = 0; number < 240; number++) {
            int column = number % 20;
            int row = number / 20;
            round.add(x -> x.setFloor(column, row, 1));
        }
        return round;
    }

    private static List<Question> sea() {
        List<Question> round = new ArrayList<>();
        for (int number = 0; number < 240; number++) {
            int day = number / 24;
            int hour = number % 24;
            round.add(x -> x.setWater(day, hour, 1));
        }
        for (int number = 0; number < 10; number++) {
            int day = number;
            round.add(x -> x.setSlope(day, 1));
            round.add(x -> x.setWeather(day, 1));
        }
        for (int number = 0; number < 20; number++) {
            int column = number;
            round.add(x -> x.addGauge(column));
        }
        return round;
    }

    private static List<Question> depths() {
        List<Question> round = new ArrayList<>();
        for (int number = 0; number < 240; number++) {
            int column = number % 20;
            int row = number / 20;
            round.add(x -> x.depth(column, row));
        }
        return round;
    }

    private static List<Question> depthsAnew() {
        List<Question> round = new ArrayList<>();
        for (int number = 0; number < 240; number++) {
            int column = number % 20;
            int row = number / 20;
            round.add(x -> x.depthAnew(column, row));
        }
        return round;
    }

    private static List<Question> texts() {
        List<Question> round = new ArrayList<>();
        for (int number = 0; number < 16; number++) {
            int line = number;
            round.add(x -> x.writeLine(line));
            for (int place = 0; place < 20; place++) {
                int index = place;
                round.add(x -> x.textAt(index));
            }
        }
        return round;
    }

    private static List<Question> soundings(int line) {
        List<Question> round = new ArrayList<>();
        for (int slot = 0; slot < 140; slot++) {
            int cell = slot / 7;
            int side = slot % 7 - 3;
            round.add(x -> x.sounding(line, cell, side));
            round.add(x -> x.isSpike(line, cell, side));
            round.add(x -> x.disturb(line, cell, side, 0));
        }
        return round;
    }
}
