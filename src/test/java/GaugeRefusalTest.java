/** Promises 7 to 11: every exception, in the order in which they are listed; none changes anything. */
final class GaugeRefusalTest {
    private static final Twins FRESH = new Twins(Made::fresh);
    private static final Twins ORDINARY = new Twins(Made::ordinary);
    private static final Twins FULL = new Twins(Made::full);

    private GaugeRefusalTest() {
    }

    public static void main(String[] args) {
        adding();
        failing();
        mending();
        telling();
        tides();
        FRESH.end();
        ORDINARY.end();
        FULL.end();
        Checks.end("GaugeRefusalTest");
    }

    private static void adding() {
        for (int column : Made.outside(20)) {
            FRESH.refuse(Checks.INDEX, x -> x.addGauge(column));
            ORDINARY.refuse(Checks.INDEX, x -> x.addGauge(column));
            FULL.refuse(Checks.INDEX, x -> x.addGauge(column));
        }
        for (int column : new int[] {4, 15}) {
            ORDINARY.refuse(Checks.UNSUPPORTED, x -> x.addGauge(column));
        }
        // A gauge stands there, and there are 3 gauges too.
        for (int column : new int[] {0, 10, 19}) {
            FULL.refuse(Checks.UNSUPPORTED, x -> x.addGauge(column));
        }
        for (int column : new int[] {1, 9, 11, 18}) {
            FULL.refuse(Checks.STATE, x -> x.addGauge(column));
        }
    }

    private static void failing() {
        for (int gauge : new int[] {Integer.MIN_VALUE, -1, 0, 1, Integer.MAX_VALUE}) {
            FRESH.refuse(Checks.MISSING, x -> x.fail(gauge, 0, 0, 1));
        }
        for (int gauge : Made.outside(2)) {
            ORDINARY.refuse(Checks.MISSING, x -> x.fail(gauge, 0, 0, 24));
            ORDINARY.refuse(Checks.MISSING, x -> x.fail(gauge, 10, 0, 24));
            ORDINARY.refuse(Checks.MISSING, x -> x.fail(gauge, 0, 24, 24));
            ORDINARY.refuse(Checks.MISSING, x -> x.fail(gauge, 0, 5, 5));
        }
        FULL.refuse(Checks.MISSING, x -> x.fail(3, 0, 0, 24));
        for (int day : Made.outside(10)) {
            ORDINARY.refuse(Checks.INDEX, x -> x.fail(0, day, 0, 24));
            ORDINARY.refuse(Checks.INDEX, x -> x.fail(1, day, 23, 24));
            ORDINARY.refuse(Checks.INDEX, x -> x.fail(1, day, 5, 5));
            ORDINARY.refuse(Checks.INDEX, x -> x.fail(1, day, 5, 25));
        }
        for (int hour : Made.outside(24)) {
            ORDINARY.refuse(Checks.INDEX, x -> x.fail(0, 0, hour, 24));
            ORDINARY.refuse(Checks.INDEX, x -> x.fail(1, 9, hour, 25));
            ORDINARY.refuse(Checks.INDEX, x -> x.fail(1, 9, hour, hour));
        }
        for (int end : new int[] {Integer.MIN_VALUE, -1, 0, 5, 25, 29, Integer.MAX_VALUE}) {
            ORDINARY.refuse(Checks.ARGUMENT, x -> x.fail(0, 0, 5, end));
        }
        for (int end : new int[] {-1, 0, 25}) {
            ORDINARY.refuse(Checks.ARGUMENT, x -> x.fail(1, 9, 0, end));
        }
        for (int end : new int[] {22, 23, 25}) {
            ORDINARY.refuse(Checks.ARGUMENT, x -> x.fail(1, 9, 23, end));
        }
    }

    private static void mending() {
        FRESH.refuse(Checks.MISSING, x -> x.mend(0, 0));
        for (int gauge : Made.outside(2)) {
            ORDINARY.refuse(Checks.MISSING, x -> x.mend(gauge, 1));
            ORDINARY.refuse(Checks.MISSING, x -> x.mend(gauge, 10));
        }
        FULL.refuse(Checks.MISSING, x -> x.mend(3, 0));
        for (int day : Made.outside(10)) {
            ORDINARY.refuse(Checks.INDEX, x -> x.mend(0, day));
            ORDINARY.refuse(Checks.INDEX, x -> x.mend(1, day));
        }
    }

    private static void telling() {
        FRESH.refuse(Checks.MISSING, x -> x.told(0, 0, 0));
        for (int gauge : Made.outside(2)) {
            ORDINARY.refuse(Checks.MISSING, x -> x.told(gauge, 0, 0));
            ORDINARY.refuse(Checks.MISSING, x -> x.told(gauge, 10, 0));
            ORDINARY.refuse(Checks.MISSING, x -> x.told(gauge, 2, 24));
        }
        FULL.refuse(Checks.MISSING, x -> x.told(3, 0, 0));
        for (int day : Made.outside(10)) {
            ORDINARY.refuse(Checks.INDEX, x -> x.told(0, day, 0));
            ORDINARY.refuse(Checks.INDEX, x -> x.told(1, day, 23));
        }
        // On day 2 gauge 1 tells nothing in any hour.
        for (int hour : Made.outside(24)) {
            ORDINARY.refuse(Checks.INDEX, x -> x.told(0, 0, hour));
            ORDINARY.refuse(Checks.INDEX, x -> x.told(1, 2, hour));
        }
        for (int hour : new int[] {0, 12, 23}) {
            ORDINARY.refuse(Checks.UNSUPPORTED, x -> x.told(1, 2, hour));
        }
        ORDINARY.refuse(Checks.UNSUPPORTED, x -> x.told(0, 2, 20));
        ORDINARY.refuse(Checks.UNSUPPORTED, x -> x.told(0, 2, 23));
    }

    private static void tides() {
        for (int column : Made.outside(20)) {
            FRESH.refuse(Checks.INDEX, x -> x.tide(column, 0, 0));
            ORDINARY.refuse(Checks.INDEX, x -> x.tide(column, 0, 0));
            ORDINARY.refuse(Checks.INDEX, x -> x.tide(column, 2, 23));
        }
        for (int day : Made.outside(10)) {
            FRESH.refuse(Checks.INDEX, x -> x.tide(0, day, 0));
            ORDINARY.refuse(Checks.INDEX, x -> x.tide(0, day, 0));
            ORDINARY.refuse(Checks.INDEX, x -> x.tide(19, day, 23));
        }
        for (int hour : Made.outside(24)) {
            FRESH.refuse(Checks.INDEX, x -> x.tide(0, 0, hour));
            ORDINARY.refuse(Checks.INDEX, x -> x.tide(0, 0, hour));
            ORDINARY.refuse(Checks.INDEX, x -> x.tide(19, 2, hour));
        }
        FRESH.refuse(Checks.UNSUPPORTED, x -> x.tide(0, 0, 0));
        FRESH.refuse(Checks.UNSUPPORTED, x -> x.tide(19, 9, 23));
        for (int column : new int[] {0, 4, 9, 15, 19}) {
            ORDINARY.refuse(Checks.UNSUPPORTED, x -> x.tide(column, 2, 20));
            ORDINARY.refuse(Checks.UNSUPPORTED, x -> x.tide(column, 2, 23));
        }
    }
}
