import java.math.BigDecimal;

/** The Terms FORMAT and PATTERN, sentence by sentence, at the least and the greatest of each. */
public final class BoundaryFormatTest {
    private static final int[] BIAS = {0, 0, 1, 3, 7, 15, 31, 63, 127};

    public static void main(String[] args) {
        Check check = new Check("BoundaryFormatTest");
        leastAndGreatestFormat(check);
        bitsOfAPattern(check);
        orderOfTheBits(check);
        bias(check);
        neitherZeroNorAllOnes(check);
        exponentZero(check);
        exponentAllOnes(check);
        belowZero(check);
        check.end();
    }

    private static String name(int e, int m) {
        return "format(" + e + ", " + m + "), ";
    }

    private static String plain(BigDecimal value) {
        return value.signum() == 0 ? "0" : value.stripTrailingZeros().toPlainString();
    }

    private static void leastAndGreatestFormat(Check check) {
        check.sentence("FORMAT: E (2 .. 8) and M (1 .. 23)");
        String[][] corners = {
            {"2", "1", "3", "0.5"}, {"2", "23", "3.9999997615814208984375", "0.00000011920928955078125"},
            {"8", "1", "255211775190703847597530955573826158592", plain(Model.powerOfTwo(-127))},
            {"8", "23", "340282346638528859811704183484516925440", plain(Model.powerOfTwo(-149))}};
        for (String[] row : corners) {
            int e = Integer.parseInt(row[0]);
            int m = Integer.parseInt(row[1]);
            DecimalDesk desk = new DecimalDesk();
            check.due(name(e, m), desk.format(e, m), true);
            check.due(name(e, m) + "greatest", Check.exact(desk, ((1L << e) - 1 << m) - 1), row[2]);
            check.due(name(e, m) + "least", Check.exact(desk, 1), row[3]);
        }
        int[][] beyond = {{1, 1}, {1, 23}, {9, 1}, {9, 23}, {2, 0}, {8, 0}, {2, 24}, {8, 24}, {1, 0}, {9, 24}};
        for (int[] row : beyond) {
            check.due(name(row[0], row[1]), new DecimalDesk().format(row[0], row[1]), false);
        }
    }

    private static void bitsOfAPattern(Check check) {
        check.sentence("PATTERN: 1 + E + M bits, as a long from 0 on");
        for (int e = 2; e <= 8; e++) {
            for (int m = 1; m <= 23; m++) {
                long beyond = 1L << 1 + e + m;
                DecimalDesk desk = Check.desk(e, m);
                check.due(name(e, m) + "exact of the first", Check.exact(desk, 0), "0");
                check.due(name(e, m) + "exact of the last", Check.exact(desk, beyond - 1), "nan");
                check.due(name(e, m) + "shortest of the first", Check.shortest(desk, 0), "0e0");
                check.due(name(e, m) + "shortest of the last", Check.shortest(desk, beyond - 1), "nan");
                for (long none : new long[] {-1, beyond, beyond + 1, Long.MIN_VALUE, Long.MIN_VALUE + 1}) {
                    check.due(name(e, m) + "exact(" + none + ")", Check.exact(desk, none), Check.ILLEGAL);
                    check.due(name(e, m) + "shortest(" + none + ")", Check.shortest(desk, none), Check.ILLEGAL);
                    check.due(name(e, m) + "next(" + none + ", true)", desk.next(none, true), -1L);
                    check.due(name(e, m) + "next(" + none + ", false)", desk.next(none, false), -1L);
                }
            }
        }
    }

    private static void orderOfTheBits(Check check) {
        check.sentence("PATTERN: the SIGN, then E bits e, then M bits m");
        for (int e = 2; e <= 8; e++) {
            for (int m = 1; m <= 23; m++) {
                DecimalDesk desk = Check.desk(e, m);
                check.due(name(e, m) + "the SIGN alone", Check.exact(desk, 1L << e + m), "-0");
                check.due(name(e, m) + "the highest bit of e", Check.exact(desk, 1L << e + m - 1), "2");
                check.due(name(e, m) + "the lowest bit of e", Check.exact(desk, 1L << m),
                        plain(Model.powerOfTwo(1 - BIAS[e])));
                check.due(name(e, m) + "the highest bit of m", Check.exact(desk, 1L << m - 1),
                        plain(Model.powerOfTwo(-BIAS[e])));
                check.due(name(e, m) + "the lowest bit of m", Check.exact(desk, 1),
                        plain(Model.powerOfTwo(1 - BIAS[e] - m)));
            }
        }
    }

    private static void bias(Check check) {
        check.sentence("BIAS is 2^(E-1) - 1");
        for (int e = 2; e <= 8; e++) {
            DecimalDesk desk = Check.desk(e, 5);
            check.due(name(e, 5) + "read 1", Check.read(desk, "1"), "" + ((long) BIAS[e] << 5));
            check.due(name(e, 5) + "exact of e = BIAS", Check.exact(desk, (long) BIAS[e] << 5), "1");
        }
    }

    private static void neitherZeroNorAllOnes(Check check) {
        check.sentence("e neither 0 nor all ones: (2^M + m) * 2^(e - BIAS - M)");
        for (int e = 2; e <= 8; e++) {
            for (int m = 1; m <= 23; m++) {
                long full = 1L << m;
                for (int field : new int[] {1, 2, (1 << e) - 3, (1 << e) - 2}) {
                    for (long fraction : new long[] {0, 1, full - 1}) {
                        BigDecimal value = BigDecimal.valueOf(full + fraction)
                                .multiply(Model.powerOfTwo(field - BIAS[e] - m));
                        long pattern = field * full + fraction;
                        check.due(name(e, m) + "exact(" + pattern + ")",
                                Check.exact(Check.desk(e, m), pattern), plain(value));
                    }
                }
            }
        }
    }

    private static void exponentZero(Check check) {
        check.sentence("e is 0: m * 2^(1 - BIAS - M)");
        for (int e = 2; e <= 8; e++) {
            for (int m = 1; m <= 23; m++) {
                for (long fraction : new long[] {0, 1, (1L << m) - 1}) {
                    BigDecimal value = BigDecimal.valueOf(fraction).multiply(Model.powerOfTwo(1 - BIAS[e] - m));
                    check.due(name(e, m) + "exact(" + fraction + ")",
                            Check.exact(Check.desk(e, m), fraction), plain(value));
                }
            }
        }
    }

    private static void exponentAllOnes(Check check) {
        check.sentence("e is all ones: INFINITE if m is 0, else NO NUMBER");
        for (int e = 2; e <= 8; e++) {
            for (int m = 1; m <= 23; m++) {
                DecimalDesk desk = Check.desk(e, m);
                long infinite = (1L << e) - 1 << m;
                check.due(name(e, m) + "m is 0", Check.exact(desk, infinite), "inf");
                check.due(name(e, m) + "m is 1", Check.exact(desk, infinite + 1), "nan");
                check.due(name(e, m) + "m is all ones", Check.exact(desk, infinite + (1L << m) - 1), "nan");
                check.due(name(e, m) + "m is 0, shortest", Check.shortest(desk, infinite), "inf");
                check.due(name(e, m) + "m is 1, shortest", Check.shortest(desk, infinite + 1), "nan");
            }
        }
    }

    private static void belowZero(Check check) {
        check.sentence("It is that below 0, if SIGN is 1");
        for (int e = 2; e <= 8; e++) {
            for (int m = 1; m <= 23; m++) {
                long sign = 1L << e + m;
                long infinite = (1L << e) - 1 << m;
                long one = (long) BIAS[e] << m;
                for (long size : new long[] {0, 1, (1L << m) - 1, 1L << m, one, infinite - 1, infinite}) {
                    DecimalDesk desk = Check.desk(e, m);
                    String above = Check.exact(desk, size);
                    check.due(name(e, m) + "exact(SIGN + " + size + ")", Check.exact(desk, sign + size), "-" + above);
                }
                check.due(name(e, m) + "read -1", Check.read(Check.desk(e, m), "-1"), "" + (sign + one));
            }
        }
    }
}
