import java.util.Random;

/** Promise 9: all digits that a number has. */
public final class ExactTest {
    public static void main(String[] args) {
        Check check = new Check("ExactTest");
        written(check);
        wrongPatterns(check);
        allOfSmallFormats(check);
        everyFormat(check);
        check.end();
    }

    private static void written(Check check) {
        Object[][] rows = {
            {8, 23, 0x00000000L, "0"}, {8, 23, 0x80000000L, "-0"}, {8, 23, 0x3F800000L, "1"},
            {8, 23, 0xBF800000L, "-1"}, {8, 23, 0x3FC00000L, "1.5"}, {8, 23, 0x41200000L, "10"},
            {8, 23, 0x42C80000L, "100"}, {8, 23, 0xC2C90000L, "-100.5"}, {8, 23, 0x3F000000L, "0.5"},
            {8, 23, 0x3DCCCCCDL, "0.100000001490116119384765625"}, {8, 23, 0x501502F9L, "10000000000"},
            {8, 23, 0x7F7FFFFFL, "340282346638528859811704183484516925440"},
            {8, 23, 0xFF7FFFFFL, "-340282346638528859811704183484516925440"},
            {8, 23, 0x00000001L, "0.0000000000000000000000000000000000000000000014012984643248170709237295832899161"
                + "3128026194187651577175706828388979108268586060148663818836212158203125"},
            {8, 23, 0x7F800000L, "inf"}, {8, 23, 0xFF800000L, "-inf"}, {8, 23, 0x7FC00000L, "nan"},
            {8, 23, 0xFFC00000L, "nan"}, {4, 3, 1L, "0.001953125"}, {4, 3, 0x77L, "240"}, {4, 3, 0xF7L, "-240"},
            {2, 1, 0L, "0"}, {2, 1, 1L, "0.5"}, {2, 1, 2L, "1"}, {2, 1, 3L, "1.5"}, {2, 1, 4L, "2"}, {2, 1, 5L, "3"},
            {2, 1, 6L, "inf"}, {2, 1, 7L, "nan"}, {2, 1, 8L, "-0"}, {2, 1, 11L, "-1.5"}, {2, 1, 14L, "-inf"}};
        for (Object[] row : rows) {
            DecimalDesk desk = new DecimalDesk();
            desk.format((Integer) row[0], (Integer) row[1]);
            long pattern = (Long) row[2];
            check.due("exact(" + pattern + ")", Check.exact(desk, pattern), row[3]);
        }
    }

    private static void wrongPatterns(Check check) {
        DecimalDesk desk = new DecimalDesk();
        check.due("exact(1L << 32)", Check.exact(desk, 1L << 32), Check.ILLEGAL);
        check.due("nothing told", Check.toldBy(desk), "");
        desk.format(4, 3);
        Check.shortest(desk, 57);
        for (long pattern : new long[] {-1, 256, 257, 1L << 32, 1L << 40, Long.MIN_VALUE, Long.MAX_VALUE}) {
            check.due("exact(" + pattern + ")", Check.exact(desk, pattern), Check.ILLEGAL);
            check.due("what was told stays", Check.toldBy(desk), "1.1e0");
        }
        check.due("exact(255)", Check.exact(desk, 255), "nan");
    }

    private static void allOfSmallFormats(Check check) {
        for (int e = 2; e <= 5; e++) {
            for (int m = 1; m <= 3; m++) {
                Model model = new Model();
                model.e = e;
                model.m = m;
                for (long pattern = 0; pattern < 2 * model.signBit(); pattern++) {
                    check.due("format(" + e + ", " + m + "), exact(" + pattern + ")",
                            Check.exact(Check.desk(e, m), pattern), model.exact(pattern));
                }
            }
        }
    }

    private static void everyFormat(Check check) {
        Random random = new Random(9);
        for (int e = 2; e <= 8; e++) {
            for (int m = 1; m <= 23; m++) {
                Model model = new Model();
                model.e = e;
                model.m = m;
                for (int i = 0; i < 40; i++) {
                    long pattern = Math.floorMod(random.nextLong(), 2 * model.signBit());
                    long size = i % 2 == 0 ? pattern : pattern % (1L << m);
                    check.due("format(" + e + ", " + m + "), exact(" + size + ")",
                            Check.exact(Check.desk(e, m), size), model.exact(size));
                }
            }
        }
    }
}
