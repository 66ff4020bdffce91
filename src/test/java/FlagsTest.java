/** Promise 6: INEXACT 1, OVERFLOW 2, UNDERFLOW 4; they stay until they are cleared. */
public final class FlagsTest {
    public static void main(String[] args) {
        Check check = new Check("FlagsTest");
        eachAlone(check);
        theyStay(check);
        underflowByTheDecimalsSize(check);
        check.end();
    }

    private static void eachAlone(Check check) {
        String[][] rows = {
            {"1", "0"}, {"0", "0"}, {"-0", "0"}, {"240", "0"}, {"0.001953125", "0"}, {"0.013671875", "0"},
            {"0.1", "1"}, {"-0.1", "1"}, {"241", "1"}, {"247.9", "1"}, {"248", "3"}, {"256", "3"}, {"-1e99", "3"},
            {"0.001", "5"}, {"-0.001", "5"}, {"1e-99", "5"}, {"0.0001e-999", "5"}, {"0.015625", "0"},
            {"0.01562500000001", "1"}};
        for (String[] row : rows) {
            DecimalDesk desk = new DecimalDesk();
            desk.format(4, 3);
            Check.read(desk, row[0]);
            check.due("flags() behind " + row[0], "" + desk.flags(), row[1]);
            check.due("flags() again", "" + desk.flags(), row[1]);
        }
    }

    private static void theyStay(Check check) {
        DecimalDesk desk = new DecimalDesk();
        Check.read(desk, "0.1");
        check.due("flags()", desk.flags(), 1);
        Check.read(desk, "1");
        check.due("flags() behind an exact one", desk.flags(), 1);
        Check.read(desk, "1e99");
        check.due("flags()", desk.flags(), 3);
        Check.read(desk, "1e-99");
        check.due("flags()", desk.flags(), 7);
        Check.read(desk, "1x");
        desk.format(3, 3);
        desk.mode(1);
        desk.next(1, true);
        Check.shortest(desk, 1);
        Check.exact(desk, 1);
        check.due("flags() behind other calls", desk.flags(), 7);
        desk.clear(7);
        Check.shortest(desk, 1);
        Check.exact(desk, 112);
        check.due("what is told raises none", desk.flags(), 0);
    }

    /** What becomes 2^(1 - BIAS) by rounding up was below it all the same. */
    private static void underflowByTheDecimalsSize(Check check) {
        for (int mode = 0; mode <= 4; mode++) {
            DecimalDesk desk = new DecimalDesk();
            desk.format(4, 3);
            desk.mode(mode);
            String size = mode == 1 || mode == 3 ? "7" : "8";
            check.due("read just below 2^-6", Check.read(desk, "0.0156249999"), size);
            check.due("flags()", desk.clear(7), 5);
            String above = mode == 2 ? "9" : "8";
            check.due("read just above 2^-6", Check.read(desk, "0.0156250001"), above);
            check.due("flags()", desk.clear(7), 1);
        }
        DecimalDesk desk = new DecimalDesk();
        check.due("read just below 2^-126", Check.read(desk, "1.17549435082228750796873653722224567781e-38"),
                "8388608");
        check.due("flags()", desk.clear(7), 5);
        check.due("read just above 2^-126", Check.read(desk, "1.17549435082228750796873653722224567782e-38"),
                "8388608");
        check.due("flags()", desk.clear(7), 1);
    }
}
