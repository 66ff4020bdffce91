/** Promise 2: every FORMAT there is, and none besides; what is none changes nothing. */
public final class FormatTest {
    public static void main(String[] args) {
        Check check = new Check("FormatTest");
        everyFormat(check);
        noSuchFormat(check);
        allElseStays(check);
        check.end();
    }

    private static void everyFormat(Check check) {
        for (int e = 2; e <= 8; e++) {
            for (int m = 1; m <= 23; m++) {
                DecimalDesk desk = new DecimalDesk();
                String call = "format(" + e + ", " + m + ")";
                check.due(call, desk.format(e, m), true);
                long one = (1L << e - 1) - 1 << m;
                check.due(call + ", read 1", Check.read(desk, "1"), "" + one);
                long infinity = (1L << e) - 1 << m;
                check.due(call + ", read 1e99", Check.read(desk, "1e99"), "" + infinity);
                check.due(call + ", exact of no number", Check.exact(desk, infinity + 1), "nan");
                check.due(call + ", exact beyond", Check.exact(desk, 2L << e + m), Check.ILLEGAL);
            }
        }
    }

    private static void noSuchFormat(Check check) {
        int[][] wrong = {{1, 3}, {9, 3}, {0, 0}, {4, 0}, {4, 24}, {-4, 3}, {4, -3}, {1, 23}, {8, 24}, {2, 0},
            {Integer.MAX_VALUE, 3}, {4, Integer.MAX_VALUE}, {Integer.MIN_VALUE, 3}, {4, Integer.MIN_VALUE}};
        for (int[] pair : wrong) {
            DecimalDesk desk = new DecimalDesk();
            String call = "format(" + pair[0] + ", " + pair[1] + ")";
            check.due(call, desk.format(pair[0], pair[1]), false);
            check.due("read 1 behind " + call, Check.read(desk, "1"), "1065353216");
            desk.format(5, 10);
            check.due(call, desk.format(pair[0], pair[1]), false);
            check.due("read 1 behind " + call, Check.read(desk, "1"), "15360");
        }
    }

    private static void allElseStays(Check check) {
        DecimalDesk desk = new DecimalDesk();
        desk.mode(2);
        Check.read(desk, "0.1");
        Check.exact(desk, 0x3FC00000L);
        Check.typeAll(desk, "1.01");
        check.due("format(4, 3)", desk.format(4, 3), true);
        check.due("flags()", desk.flags(), 1);
        check.due("what was told", Check.toldBy(desk), "1.5");
        check.due("read() by the new format and the old mode", Check.read(desk), "57");
    }
}
