/**
 * Every call with all combinations of the values at the edges of its parameters, each compared with the model: which of
 * several exceptions is thrown, and that nothing else is. No object is asked more than 512 calls.
 */
final class ExtremesTest {
    private static final int CALLS = 450;
    /** A stride that has no factor in common with any number of combinations mixes allowed and refused calls. */
    private static final long STRIDE = 7919;

    private static final int MIN = Integer.MIN_VALUE;
    private static final int MAX = Integer.MAX_VALUE;
    private static final int[] KINDS = {'r', 'c', 'q', 65535};
    private static final int[] COLUMNS = {MIN, -1, 0, 4, 5, 15, 19, 20, MAX};
    private static final int[] ROWS = {MIN, -1, 0, 4, 11, 12, MAX};
    private static final int[] PLACES = {MIN, -1, 0, 4, 11, 12, 19, 20, MAX};
    private static final int[] DAYS = {MIN, -1, 0, 1, 3, 9, 10, MAX};
    private static final int[] HOURS = {MIN, -1, 0, 7, 11, 22, 23, 24, MAX};
    private static final int[] ENDS = {MIN, -1, 0, 7, 8, 23, 24, 25, MAX};
    private static final int[] DEPTHS = {MIN, 0, 1, 30, 99, 100, MAX};
    private static final int[] HEIGHTS = {MIN, -1, 0, 30, 31, MAX};
    private static final int[] SLOPES = {MIN, -3, -2, 0, 2, 3, MAX};
    private static final int[] FORCES = {MIN, -1, 0, 4, 5, 9, 10, MAX};
    private static final int[] GAUGES = {MIN, -1, 0, 1, 2, 3, MAX};
    private static final int[] LINES = {MIN, -1, 0, 1, 2, 3, 15, 16, MAX};
    private static final int[] CELLS = {MIN, -1, 0, 4, 5, 9, 10, 11, 12, 19, 20, MAX};
    private static final int[] SIDES = {MIN, -4, -3, -2, -1, 0, 1, 2, 3, 4, MAX};
    private static final int[] ERRORS = {MIN, -61, -60, 0, 6, 60, 61, MAX};
    private static final int[] INDICES = {MIN, -1, 0, 1, 14, 15, 16, 160, 180, 200, 239, 240, MAX};

    private Both both;
    private int asked = CALLS;

    private ExtremesTest() {
    }

    public static void main(String[] args) throws Exception {
        ExtremesTest test = new ExtremesTest();
        test.tryAll("setFloor", COLUMNS, ROWS, DEPTHS);
        test.tryAll("setWater", DAYS, HOURS, HEIGHTS);
        test.tryAll("setSlope", DAYS, SLOPES);
        test.tryAll("waterAt", COLUMNS, DAYS, HOURS);
        test.tryAll("setWeather", DAYS, FORCES);
        test.tryAll("addGauge", COLUMNS);
        test.tryAll("fail", GAUGES, DAYS, HOURS, ENDS);
        test.tryAll("mend", GAUGES, DAYS);
        test.tryAll("told", GAUGES, DAYS, HOURS);
        test.tryAll("tide", COLUMNS, DAYS, HOURS);
        test.tryAll("run", KINDS, PLACES, PLACES, PLACES, DAYS, HOURS);
        test.tryAll("runAnew", LINES, DAYS, HOURS);
        test.tryAll("disturb", LINES, CELLS, SIDES, ERRORS);
        for (String name : new String[] {"sounding", "reduced", "isSpike"}) {
            test.tryAll(name, LINES, CELLS, SIDES);
        }
        for (String name : new String[] {"soundings", "spikes", "lost", "dayOf", "writeLine"}) {
            test.tryAll(name, LINES);
        }
        test.tryAll("cross", LINES, LINES);
        test.tryAll("depth", COLUMNS, ROWS);
        test.tryAll("depthAnew", COLUMNS, ROWS);
        test.tryAll("gap", INDICES);
        test.tryAll("hours", DAYS);
        test.tryAll("textAt", INDICES);
        Checks.end("ExtremesTest");
    }

    private void tryAll(String name, int[]... choices) throws Exception {
        long combinations = 1;
        for (int[] choice : choices) {
            combinations *= choice.length;
        }
        boolean takesKind = name.equals("run");
        for (long number = 0; number < combinations; number++) {
            if (asked >= CALLS) {
                makeAnew();
            }
            long left = number * STRIDE % combinations;
            Object[] values = new Object[choices.length];
            for (int place = 0; place < choices.length; place++) {
                int value = choices[place][(int) (left % choices[place].length)];
                values[place] = takesKind && place == 0 ? (Object) (char) value : (Object) value;
                left /= choices[place].length;
            }
            asked++;
            if (!both.agree("combination " + number, name, values)) {
                return;
            }
        }
        if (!both.agree("behind all of " + name, "charted") || !both.agree("behind all of " + name, "hire")) {
            Checks.wrong("something changed in the calls of " + name);
        }
        asked += 2;
    }

    /** The survey that Made calls ordinary. */
    private void makeAnew() throws Exception {
        both = new Both();
        asked = 0;
        String[] calls = {"setFloor 0 0 99", "setFloor 5 4 35", "setFloor 3 4 9", "setWater 0 6 12", "setWater 0 7 30",
            "setSlope 0 -2", "setSlope 1 1", "setSlope 9 2", "setWeather 3 5", "setWeather 9 4", "addGauge 4",
            "addGauge 15", "run r 4 0 9 0 6", "run c 5 11 0 1 10", "run r 0 19 19 9 22", "disturb 0 2 1 7",
            "disturb 1 0 0 -60", "disturb 2 0 0 60", "fail 0 1 10 12", "fail 0 9 20 24", "fail 1 9 0 24", "writeLine 0"};
        for (String call : calls) {
            String[] words = call.split(" ");
            Object[] values = new Object[words.length - 1];
            for (int place = 0; place < values.length; place++) {
                String word = words[place + 1];
                values[place] = words[0].equals("run") && place == 0 ? (Object) word.charAt(0) : Integer.valueOf(word);
            }
            both.agree("the beginning", words[0], values);
            asked++;
        }
    }
}
