import java.math.BigDecimal;
import java.util.Random;

/** Promise 8: the shortest DECIMAL that comes back, of those the nearest, of two the lesser in size. */
public final class ShortestTest {
    public static void main(String[] args) {
        Check check = new Check("ShortestTest");
        written(check);
        wrongPatterns(check);
        byTrialOfAllDecimals(check);
        powersOfTwo(check);
        floats(check);
        everyFormat(check);
        check.end();
    }

    private static void written(Check check) {
        Object[][] rows = {
            {8, 23, 0x00000000L, "0e0"}, {8, 23, 0x80000000L, "-0e0"}, {8, 23, 0x3F800000L, "1e0"},
            {8, 23, 0xBF800000L, "-1e0"}, {8, 23, 0x3DCCCCCDL, "1e-1"}, {8, 23, 0x7F7FFFFFL, "3.4028235e38"},
            {8, 23, 0x00000001L, "1e-45"}, {8, 23, 0x00000002L, "3e-45"}, {8, 23, 0x00000003L, "4e-45"},
            {8, 23, 0x00800000L, "1.1754944e-38"}, {8, 23, 0x80800000L, "-1.1754944e-38"},
            {8, 23, 0x007FFFFFL, "1.1754942e-38"}, {8, 23, 0x7F800000L, "inf"}, {8, 23, 0xFF800000L, "-inf"},
            {8, 23, 0x7F800001L, "nan"}, {8, 23, 0xFF800001L, "nan"}, {8, 23, 0xFFFFFFFFL, "nan"},
            {8, 23, 0x4B800000L, "1.6777216e7"}, {8, 23, 0x41200000L, "1e1"}, {8, 23, 0x42C80000L, "1e2"},
            {8, 23, 0x411FFFFFL, "9.999999e0"}, {8, 23, 0x501502F9L, "1e10"},
            {4, 3, 1L, "2e-3"}, {4, 3, 0x77L, "2.4e2"}, {4, 3, 0x78L, "inf"}, {4, 3, 0xF8L, "-inf"},
            {4, 3, 0x79L, "nan"}, {4, 3, 0xF9L, "nan"}, {4, 3, 0x80L, "-0e0"},
            {3, 1, 5L, "7e-1"}, {3, 1, 0x15L, "-7e-1"},
            {2, 1, 1L, "5e-1"}, {2, 1, 2L, "1e0"}, {2, 1, 3L, "1.5e0"}, {2, 1, 4L, "2e0"}, {2, 1, 5L, "3e0"},
            {2, 1, 6L, "inf"}, {2, 1, 7L, "nan"}, {2, 1, 9L, "-5e-1"}, {2, 1, 14L, "-inf"}, {2, 1, 15L, "nan"}};
        for (Object[] row : rows) {
            DecimalDesk desk = new DecimalDesk();
            desk.format((Integer) row[0], (Integer) row[1]);
            long pattern = (Long) row[2];
            check.due("shortest(" + pattern + ")", Check.shortest(desk, pattern), row[3]);
        }
    }

    private static void wrongPatterns(Check check) {
        DecimalDesk desk = new DecimalDesk();
        check.due("shortest(-1)", Check.shortest(desk, -1), Check.ILLEGAL);
        check.due("nothing told", Check.toldBy(desk), "");
        desk.format(4, 3);
        Check.exact(desk, 57);
        for (long pattern : new long[] {-1, 256, 257, 1L << 32, 1L << 40, Long.MIN_VALUE, Long.MAX_VALUE}) {
            check.due("shortest(" + pattern + ")", Check.shortest(desk, pattern), Check.ILLEGAL);
            check.due("what was told stays", Check.toldBy(desk), "1.125");
        }
        check.due("shortest(255)", Check.shortest(desk, 255), "nan");
    }

    /** Small formats: all decimals of up to 3 digits are rounded, and the best one is kept. */
    private static void byTrialOfAllDecimals(Check check) {
        int[][] formats = {{2, 1}, {2, 2}, {2, 3}, {3, 1}, {3, 2}, {3, 3}, {4, 1}, {4, 2}, {4, 3}};
        for (int[] format : formats) {
            Model model = new Model();
            model.e = format[0];
            model.m = format[1];
            String[] best = new String[(int) model.infinity()];
            BigDecimal[] bestValue = new BigDecimal[best.length];
            int[] bestCount = new int[best.length];
            tryDecimals(model, best, bestValue, bestCount);
            for (int size = 1; size < best.length; size++) {
                DecimalDesk desk = Check.desk(model.e, model.m);
                String call = "format(" + model.e + ", " + model.m + "), shortest ";
                check.due(call + size, Check.shortest(desk, size), "" + best[size]);
                check.due(call + "-" + size, Check.shortest(desk, model.signBit() + size), "-" + best[size]);
            }
        }
    }

    private static void tryDecimals(Model model, String[] best, BigDecimal[] bestValue, int[] bestCount) {
        for (int count = 1; count <= 3; count++) {
            int from = (int) Math.pow(10, count - 1);
            for (int digits = from; digits < 10 * from; digits++) {
                for (int power = -5; power <= 4; power++) {
                    BigDecimal value = BigDecimal.valueOf(digits, count - 1 - power);
                    int size = (int) model.roundSize(value, false, 0);
                    if (size == 0 || size >= best.length || best[size] != null && bestCount[size] < count) {
                        continue;
                    }
                    int nearer = best[size] == null ? -1
                            : distance(model, size, value).compareTo(distance(model, size, bestValue[size]));
                    if (nearer < 0 || nearer == 0 && value.compareTo(bestValue[size]) < 0) {
                        best[size] = Model.scientific(value);
                        bestValue[size] = value;
                        bestCount[size] = count;
                    }
                }
            }
        }
    }

    private static BigDecimal distance(Model model, int size, BigDecimal value) {
        return model.value(size).subtract(value).abs();
    }

    /** There the neighbour below is nearer than the one above. */
    private static void powersOfTwo(Check check) {
        Model model = new Model();
        for (long e = 0; e <= 255; e++) {
            DecimalDesk desk = new DecimalDesk();
            for (int m = -1; m <= 1; m++) {
                long pattern = Math.max((e << 23) + m, 0);
                check.due("shortest(" + pattern + ")", Check.shortest(desk, pattern), model.shortest(pattern));
            }
        }
    }

    private static void floats(Check check) {
        Model model = new Model();
        Random random = new Random(8);
        for (int i = 0; i < 4000; i++) {
            long pattern = random.nextInt() & 0xFFFFFFFFL;
            DecimalDesk desk = new DecimalDesk();
            String text = Check.shortest(desk, pattern);
            check.due("shortest(" + pattern + ")", text, model.shortest(pattern));
            if (model.isDecimal(text)) {
                check.due("read " + text, Check.read(desk, text), "" + pattern);
            }
        }
    }

    private static void everyFormat(Check check) {
        Random random = new Random(88);
        for (int e = 2; e <= 8; e++) {
            for (int m = 1; m <= 23; m++) {
                Model model = new Model();
                model.e = e;
                model.m = m;
                for (int i = 0; i < 40; i++) {
                    long pattern = Math.floorMod(random.nextLong(), 2 * model.signBit());
                    long edge = i % 2 == 0 ? pattern >> m << m : pattern;
                    check.due("format(" + e + ", " + m + "), shortest(" + edge + ")",
                            Check.shortest(Check.desk(e, m), edge), model.shortest(edge));
                }
            }
        }
    }
}
