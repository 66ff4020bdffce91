/** Promise 11: the PATTERN that stands next to a finite one by value. */
public final class NextTest {
    public static void main(String[] args) {
        Check check = new Check("NextTest");
        floats(check);
        allOfSmallFormats(check);
        noPatterns(check);
        check.end();
    }

    private static void floats(Check check) {
        long[][] rows = {
            {0, 1, 0x80000001L}, {0x80000000L, 1, 0x80000001L}, {1, 2, 0}, {0x80000001L, 0x80000000L, 0x80000002L},
            {0x3F800000L, 0x3F800001L, 0x3F7FFFFFL}, {0xBF800000L, 0xBF7FFFFFL, 0xBF800001L},
            {0x7FFFFFL, 0x800000, 0x7FFFFE}, {0x800000, 0x800001, 0x7FFFFF},
            {0x7F7FFFFFL, 0x7F800000L, 0x7F7FFFFEL}, {0xFF7FFFFFL, 0xFF7FFFFEL, 0xFF800000L},
            {0x7F800000L, -1, -1}, {0xFF800000L, -1, -1}, {0x7F800001L, -1, -1}, {0xFF800001L, -1, -1},
            {0x7FFFFFFFL, -1, -1}, {0xFFFFFFFFL, -1, -1}};
        DecimalDesk desk = new DecimalDesk();
        for (long[] row : rows) {
            check.due("next(" + row[0] + ", true)", desk.next(row[0], true), row[1]);
            check.due("next(" + row[0] + ", false)", desk.next(row[0], false), row[2]);
        }
    }

    private static void allOfSmallFormats(Check check) {
        for (int e = 2; e <= 5; e++) {
            for (int m = 1; m <= 3; m++) {
                Model model = new Model();
                model.e = e;
                model.m = m;
                for (long pattern = -2; pattern < 2 * model.signBit() + 2; pattern++) {
                    DecimalDesk desk = Check.desk(e, m);
                    String call = "format(" + e + ", " + m + "), next(" + pattern;
                    check.due(call + ", true)", desk.next(pattern, true), model.next(pattern, true));
                    check.due(call + ", false)", desk.next(pattern, false), model.next(pattern, false));
                }
            }
        }
    }

    private static void noPatterns(Check check) {
        DecimalDesk desk = new DecimalDesk();
        desk.exact(0x3FC00000L);
        for (long pattern : new long[] {-1, 1L << 32, (1L << 32) + 1, 1L << 40, Long.MIN_VALUE, Long.MAX_VALUE}) {
            check.due("next(" + pattern + ", true)", desk.next(pattern, true), -1L);
            check.due("next(" + pattern + ", false)", desk.next(pattern, false), -1L);
        }
        desk.next(5, true);
        check.due("flags()", desk.flags(), 0);
        check.due("what was told stays", Check.toldBy(desk), "1.5");
    }
}
