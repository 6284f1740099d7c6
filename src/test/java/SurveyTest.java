/** Promises 26 to 32 and 35 to 37: lines, crossings, the hire, the text and the check. */
final class SurveyTest {
    private SurveyTest() {
    }

    public static void main(String[] args) {
        days();
        linesToRun();
        crossing();
        crossingRefuses();
        worstCrossing();
        hours();
        hire();
        hireOfLongDays();
        writing();
        sureness();
        Checks.end("SurveyTest");
    }

    private static String textOf(SwathSurvey x, int length) {
        StringBuilder text = new StringBuilder();
        for (int index = 0; index < length; index++) {
            text.append(x.textAt(index));
        }
        return text.toString();
    }

    private static void dueText(SwathSurvey x, String want, int line) {
        Checks.due(want.length(), () -> x.writeLine(line));
        Checks.due(want, () -> textOf(x, want.length()));
        Checks.due(Checks.INDEX, () -> x.textAt(want.length()));
    }

    private static void days() {
        SwathSurvey x = new SwathSurvey();
        Checks.due(0, x::lines);
        x.run('r', 0, 0, 0, 7, 0);
        x.run('r', 0, 0, 0, 9, 0);
        Checks.due(2, x::lines);
        Checks.due(7, () -> x.dayOf(0));
        Checks.due(9, () -> x.dayOf(1));
        x.runAnew(0, 8, 3);
        Checks.due(8, () -> x.dayOf(0));
        Checks.due(2, x::lines);
        Checks.due(Checks.MISSING, () -> x.dayOf(2));
        Checks.due(Checks.MISSING, () -> x.dayOf(-1));
    }

    private static void linesToRun() {
        SwathSurvey x = new SwathSurvey();
        x.run('r', 0, 0, 9, 0, 0);
        x.run('r', 5, 0, 9, 0, 10);
        x.run('r', 9, 0, 9, 1, 0);
        Checks.due(3, x::toRun);
        x.addGauge(3);
        Checks.due(0, x::toRun);
        x.fail(0, 0, 0, 1);
        Checks.due(1, x::toRun);
        x.fail(0, 0, 11, 12);
        Checks.due(1, x::toRun);
        x.fail(0, 0, 12, 18);
        Checks.due(2, x::toRun);
        x.mend(0, 0);
        Checks.due(0, x::toRun);
        // One lost sounding is enough.
        x.setFloor(0, 11, 9);
        x.run('r', 11, 0, 0, 2, 12);
        x.fail(0, 2, 8, 18);
        Checks.due(1, () -> x.lost(3));
        Checks.due(1, x::toRun);
    }

    private static void crossing() {
        SwathSurvey x = new SwathSurvey();
        x.addGauge(0);
        x.run('r', 4, 15, 3, 0, 0);
        x.run('c', 10, 9, 2, 0, 5);
        Checks.due(0, () -> x.cross(0, 1));
        // Line 0 is there in its cell 5, line 1 in its cell 5 too.
        x.disturb(0, 5, 0, 3);
        Checks.due(3, () -> x.cross(0, 1));
        Checks.due(-3, () -> x.cross(1, 0));
        x.disturb(1, 5, 0, 60);
        Checks.due(-57, () -> x.cross(0, 1));
        Checks.due(57, () -> x.cross(1, 0));
        Checks.due(true, () -> x.isSpike(1, 5, 0));
        x.run('c', 3, 4, 4, 0, 8);
        Checks.due(0, () -> x.cross(0, 2));
        x.run('c', 15, 0, 4, 0, 9);
        Checks.due(0, () -> x.cross(3, 0));
    }

    private static void crossingRefuses() {
        SwathSurvey x = new SwathSurvey();
        Checks.due(Checks.MISSING, () -> x.cross(0, 0));
        x.run('r', 4, 3, 15, 0, 0);
        Checks.due(Checks.MISSING, () -> x.cross(0, 1));
        Checks.due(Checks.MISSING, () -> x.cross(1, 0));
        Checks.due(Checks.MISSING, () -> x.cross(-1, 0));
        Checks.due(Checks.ARGUMENT, () -> x.cross(0, 0));
        x.run('r', 4, 3, 15, 1, 0);
        x.run('c', 2, 0, 11, 2, 0);
        x.run('c', 16, 0, 11, 2, 3);
        x.run('c', 5, 0, 3, 2, 6);
        x.run('c', 5, 11, 5, 2, 7);
        x.run('c', 5, 4, 11, 2, 9);
        for (int other = 0; other < 6; other++) {
            int asked = other;
            Checks.due(Checks.ARGUMENT, () -> x.cross(0, asked));
            Checks.due(Checks.ARGUMENT, () -> x.cross(asked, 0));
        }
        Checks.due(Checks.UNSUPPORTED, () -> x.cross(0, 6));
        x.addGauge(5);
        Checks.due(0, () -> x.cross(0, 6));
        x.fail(0, 0, 0, 24);
        Checks.due(Checks.UNSUPPORTED, () -> x.cross(0, 6));
        Checks.due(Checks.UNSUPPORTED, () -> x.cross(6, 0));
        Checks.due(0, () -> x.cross(1, 6));
    }

    private static void worstCrossing() {
        SwathSurvey x = new SwathSurvey();
        x.addGauge(0);
        x.run('r', 4, 0, 19, 0, 0);
        x.run('r', 8, 0, 19, 1, 0);
        Checks.due(Checks.UNSUPPORTED, x::worstCross);
        x.run('c', 6, 0, 11, 2, 0);
        Checks.due(0, x::worstCross);
        x.run('c', 7, 0, 11, 3, 0);
        x.disturb(2, 4, 0, 9);
        Checks.due(9, x::worstCross);
        x.disturb(3, 8, 0, -5);
        Checks.due(9, x::worstCross);
        x.disturb(1, 7, 0, 6);
        Checks.due(11, x::worstCross);
        x.fail(0, 1, 0, 24);
        Checks.due(9, x::worstCross);
        x.fail(0, 2, 0, 24);
        Checks.due(0, x::worstCross);
        x.fail(0, 3, 0, 24);
        Checks.due(Checks.UNSUPPORTED, x::worstCross);
        x.mend(0, 1);
        x.mend(0, 2);
        // Then lines 1 and 2, run one behind the other, are the worst pair.
        Checks.due(0, () -> x.cross(1, 2));
        x.disturb(2, 8, 0, -20);
        x.disturb(2, 4, 0, 0);
        Checks.due(20, x::worstCross);
    }

    private static void hours() {
        SwathSurvey x = new SwathSurvey();
        Checks.due(0, () -> x.hours(0));
        Checks.due(0, () -> x.hours(9));
        Checks.due(Checks.INDEX, () -> x.hours(10));
        Checks.due(Checks.INDEX, () -> x.hours(-1));
        x.run('r', 0, 0, 4, 9, 0);
        Checks.due(1, () -> x.hours(9));
        x.run('r', 0, 0, 5, 9, 1);
        Checks.due(3, () -> x.hours(9));
        x.run('r', 0, 19, 0, 9, 3);
        Checks.due(7, () -> x.hours(9));
        x.runAnew(1, 8, 1);
        Checks.due(5, () -> x.hours(9));
        Checks.due(2, () -> x.hours(8));
    }

    private static void hire() {
        SwathSurvey x = new SwathSurvey();
        x.setWeather(1, 5);
        x.setWeather(2, 4);
        Checks.due(0L, x::hire);
        x.run('r', 0, 0, 0, 3, 0);
        Checks.due(200L + 600 + 200 + 1000, x::hire);
        x.setWeather(3, 9);
        Checks.due(2000L, x::hire);
        x.setWeather(3, 0);
        x.run('r', 0, 0, 0, 0, 0);
        Checks.due(1000L + 600 + 200 + 1000, x::hire);
        x.runAnew(0, 9, 23);
        Checks.due(1000L + 600 + 200 * 7 + 1000, x::hire);
        x.runAnew(0, 0, 5);
        Checks.due(1000L, x::hire);
    }

    private static void hireOfLongDays() {
        SwathSurvey x = new SwathSurvey();
        x.run('r', 0, 0, 19, 0, 0);
        x.run('r', 0, 0, 19, 0, 4);
        x.run('r', 0, 0, 9, 0, 8);
        Checks.due(1000L, x::hire);
        x.run('r', 0, 0, 0, 0, 10);
        Checks.due(1040L, x::hire);
        x.run('r', 0, 0, 19, 0, 20);
        Checks.due(1200L, x::hire);
        x.run('r', 0, 0, 19, 0, 11);
        x.run('r', 0, 0, 19, 0, 15);
        x.run('r', 0, 0, 0, 0, 19);
        Checks.due(24, () -> x.hours(0));
        Checks.due(1560L, x::hire);
    }

    private static void writing() {
        SwathSurvey x = new SwathSurvey();
        Checks.due(Checks.MISSING, () -> x.writeLine(0));
        x.addGauge(0);
        x.run('r', 3, 0, 19, 2, 8);
        dueText(x, "r3:0-19@2/8 good", 0);
        x.run('c', 19, 11, 0, 9, 20);
        dueText(x, "c19:11-0@9/20 good", 1);
        dueText(x, "r3:0-19@2/8 good", 0);
        x.fail(0, 2, 0, 9);
        Checks.due("r3:0-19@2/8 good", () -> textOf(x, 16));
        dueText(x, "r3:0-19@2/8 part", 0);
        x.fail(0, 2, 0, 24);
        dueText(x, "r3:0-19@2/8 bad", 0);
        Checks.due(Checks.MISSING, () -> x.writeLine(2));
        Checks.due(Checks.MISSING, () -> x.writeLine(-1));
        Checks.due("r3:0-19@2/8 bad", () -> textOf(x, 15));
        x.runAnew(0, 0, 0);
        dueText(x, "r3:0-19@0/0 good", 0);
        Checks.due(Checks.INDEX, () -> x.textAt(-1));
        Checks.due(Checks.INDEX, () -> x.textAt(16));
        Checks.due(Checks.INDEX, () -> x.textAt(Integer.MAX_VALUE));
        x.run('r', 7, 5, 5, 1, 0);
        dueText(x, "r7:5-5@1/0 good", 2);
    }

    private static void sureness() {
        SwathSurvey x = new SwathSurvey();
        Checks.due(true, x::isSure);
        x.run('r', 3, 0, 19, 2, 8);
        Checks.due(true, x::isSure);
        x.addGauge(10);
        Checks.due(true, x::isSure);
        x.run('c', 3, 0, 11, 3, 8);
        x.disturb(0, 3, 0, -9);
        x.setWater(2, 8, 5);
        x.setSlope(2, 2);
        x.setFloor(3, 3, 50);
        Checks.due(true, x::isSure);
        x.fail(0, 2, 8, 9);
        Checks.due(true, x::isSure);
        x.fail(0, 2, 2, 22);
        Checks.due(true, x::isSure);
        x.mend(0, 2);
        x.runAnew(1, 2, 0);
        Checks.due(true, x::isSure);
    }
}
