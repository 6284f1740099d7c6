/** "Its calls are the sea, the gauges, the weather and the lines; all other calls look": they change nothing. */
final class LookTest {
    private static final Twins ORDINARY = new Twins(Made::ordinary);
    private static final Twins FULL = new Twins(Made::full);

    private LookTest() {
    }

    public static void main(String[] args) {
        for (Twins twins : new Twins[] {ORDINARY, FULL}) {
            lookAtTheWater(twins);
            lookAtTheLines(twins);
            lookAtTheChart(twins);
            lookAtTheWhole(twins);
            twins.end();
        }
        aTextChangesNothingButTheTextBefore();
        Checks.end("LookTest");
    }

    private static void lookAtTheWater(Twins twins) {
        for (int number = 0; number < 24; number++) {
            int hour = number;
            twins.look(x -> x.waterAt(hour % 20, hour % 3, hour));
            twins.look(x -> x.told(0, hour % 3, hour));
            twins.look(x -> x.told(1, hour % 3, hour));
            twins.look(x -> x.tide(19 - hour % 20, hour % 3, hour));
            twins.look(x -> x.tide(4, 2, hour));
        }
    }

    private static void lookAtTheLines(Twins twins) {
        for (int number = 0; number < 16; number++) {
            int line = number;
            twins.look(x -> x.soundings(line));
            twins.look(x -> x.spikes(line));
            twins.look(x -> x.lost(line));
            twins.look(x -> x.dayOf(line));
            for (int place = 0; place < 12; place++) {
                int cell = place;
                int side = place % 4 - 1;
                twins.look(x -> x.sounding(line, cell, side));
                twins.look(x -> x.reduced(line, cell, side));
                twins.look(x -> x.isSpike(line, cell, side));
                twins.look(x -> x.cross(line, cell));
            }
        }
    }

    private static void lookAtTheChart(Twins twins) {
        for (int number = 0; number < 240; number += 7) {
            int index = number;
            twins.look(x -> x.depth(index % 20, index / 20));
            twins.look(x -> x.depthAnew(index % 20, index / 20));
            twins.look(x -> x.gap(index));
        }
        twins.look(SwathSurvey::charted);
        twins.look(SwathSurvey::bestRow);
        twins.look(SwathSurvey::chartedShare);
        twins.look(SwathSurvey::meanDepth);
        twins.look(SwathSurvey::isSure);
    }

    private static void lookAtTheWhole(Twins twins) {
        for (int number = 0; number < 20; number++) {
            int index = number;
            twins.look(x -> x.hours(index));
            twins.look(x -> x.textAt(index));
        }
        twins.look(SwathSurvey::lines);
        twins.look(SwathSurvey::toRun);
        twins.look(SwathSurvey::worstCross);
        twins.look(SwathSurvey::hire);
    }

    private static void aTextChangesNothingButTheTextBefore() {
        // The text is about these lines already.
        ORDINARY.look(x -> x.writeLine(1));
        ORDINARY.look(x -> x.writeLine(2));
        ORDINARY.look(x -> x.writeLine(0));
        ORDINARY.end();
        FULL.look(x -> x.writeLine(3));
        FULL.look(x -> x.writeLine(15));
        FULL.end();
    }
}
