import java.math.BigDecimal;

/** The Terms ROUNDED and OVERFLOW, sentence by sentence: at, just below and just above each edge. */
public final class BoundaryRoundedTest {
    /** FORMAT 4, 3: a text, and the size that it is rounded to above 0 by MODE 0, 1, 2, 3 and 4. */
    private static final String[][] ROWS = {
        {"0", "0", "0", "0", "0", "0"}, {"1e-999", "0", "0", "1", "0", "0"},
        {"0.0009765624", "0", "0", "1", "0", "0"}, {"0.0009765625", "0", "0", "1", "0", "1"},
        {"0.0009765626", "1", "0", "1", "0", "1"}, {"0.0019531249", "1", "0", "1", "0", "1"},
        {"0.001953125", "1", "1", "1", "1", "1"}, {"0.0019531251", "1", "1", "2", "1", "1"},
        {"0.0029296875", "2", "1", "2", "1", "2"}, {"0.013671875", "7", "7", "7", "7", "7"},
        {"0.0146484374", "7", "7", "8", "7", "7"}, {"0.0146484375", "8", "7", "8", "7", "8"},
        {"0.0146484376", "8", "7", "8", "7", "8"}, {"0.015625", "8", "8", "8", "8", "8"},
        {"0.0166015625", "8", "8", "9", "8", "9"}, {"1", "56", "56", "56", "56", "56"},
        {"1.062499999999999999999999999999999999999", "56", "56", "57", "56", "56"},
        {"1.0625", "56", "56", "57", "56", "57"},
        {"1.062500000000000000000000000000000000001", "57", "56", "57", "56", "57"},
        {"1.1875", "58", "57", "58", "57", "58"}, {"1.9374", "63", "63", "64", "63", "63"},
        {"1.9375", "64", "63", "64", "63", "64"}, {"1.9376", "64", "63", "64", "63", "64"},
        {"232", "118", "118", "119", "118", "119"}, {"239.9", "119", "118", "119", "118", "119"},
        {"240", "119", "119", "119", "119", "119"}};

    public static void main(String[] args) {
        Check check = new Check("BoundaryRoundedTest");
        check.sentence("ROUNDED by 0: the nearest one, of two the one whose m is even");
        rowsInMode(check, 0);
        tiesOfTheLeastFormat(check, 0, new int[] {0, 2, 2, 4, 4});
        check.sentence("ROUNDED by 1: the nearest one that is not farther from 0");
        rowsInMode(check, 1);
        tiesOfTheLeastFormat(check, 1, new int[] {0, 1, 2, 3, 4});
        check.sentence("ROUNDED by 2: the least one not below");
        rowsInMode(check, 2);
        check.sentence("ROUNDED by 3: the greatest one not above");
        rowsInMode(check, 3);
        check.sentence("ROUNDED by 4: the nearest one, of two that farther from 0");
        rowsInMode(check, 4);
        tiesOfTheLeastFormat(check, 4, new int[] {1, 2, 3, 4, 5});
        finiteNumbersStay(check);
        tiesAtTheLeastNumber(check);
        aboveTheGreatest(check);
        notAboveTheGreatest(check);
        overflowByMode(check);
        signOfTheText(check);
        check.end();
    }

    private static DecimalDesk desk(int e, int m, int mode) {
        DecimalDesk desk = Check.desk(e, m);
        desk.mode(mode);
        return desk;
    }

    private static String name(int e, int m, int mode) {
        return "format(" + e + ", " + m + "), mode(" + mode + "), read ";
    }

    /** Below 0, up is to 0, and down from it. */
    private static int mirrored(int mode) {
        return mode == 2 ? 3 : mode == 3 ? 2 : mode;
    }

    private static void rowsInMode(Check check, int mode) {
        for (String[] row : ROWS) {
            String above = row[1 + mode];
            String below = "" + (128 + Integer.parseInt(row[1 + mirrored(mode)]));
            check.due(name(4, 3, mode) + row[0], Check.read(desk(4, 3, mode), row[0]), above);
            check.due(name(4, 3, mode) + "-" + row[0], Check.read(desk(4, 3, mode), "-" + row[0]), below);
        }
    }

    /** FORMAT 2, 1 has 0, 0.5, 1, 1.5, 2 and 3 alone: m is 0, which is even, or 1. */
    private static void tiesOfTheLeastFormat(Check check, int mode, int[] sizes) {
        String[] texts = {"0.25", "0.75", "1.25", "1.75", "2.5"};
        for (int i = 0; i < texts.length; i++) {
            check.due(name(2, 1, mode) + texts[i], Check.read(desk(2, 1, mode), texts[i]), "" + sizes[i]);
            check.due(name(2, 1, mode) + "-" + texts[i], Check.read(desk(2, 1, mode), "-" + texts[i]),
                    "" + (8 + sizes[i]));
        }
    }

    private static void finiteNumbersStay(Check check) {
        check.sentence("ROUNDED: a finite number of the FORMAT is rounded to itself by every MODE");
        for (int mode = 0; mode <= 4; mode++) {
            for (int pattern = 0; pattern < 256; pattern++) {
                if (pattern % 128 >= 120) {
                    continue;
                }
                DecimalDesk desk = desk(4, 3, mode);
                String text = Check.exact(desk, pattern);
                check.due(name(4, 3, mode) + text, Check.read(desk, text), "" + pattern);
                check.due("flags() behind it", desk.flags(), 0);
            }
        }
    }

    private static void tiesAtTheLeastNumber(Check check) {
        check.sentence("ROUNDED: between 0 and the least number of every FORMAT");
        int[] justBelow = {0, 0, 1, 0, 0};
        int[] tie = {0, 0, 1, 0, 1};
        int[] justAbove = {1, 0, 1, 0, 1};
        for (int e = 2; e <= 8; e++) {
            for (int m = 1; m <= 23; m++) {
                BigDecimal half = Model.powerOfTwo(1 - (1 << e - 1) + 1 - m - 1);
                boolean fits = half.precision() <= 40;
                for (int mode = 0; mode <= 4; mode++) {
                    DecimalDesk desk = desk(e, m, mode);
                    String call = name(e, m, mode);
                    String below = Check.beside(half, fits ? -1 : 0);
                    check.due(call + "just below", Check.read(desk, below), "" + justBelow[mode]);
                    check.due(call + "just above", Check.read(desk, Check.beside(half, 1)), "" + justAbove[mode]);
                    if (fits) {
                        check.due(call + "a half", Check.read(desk, Check.beside(half, 0)), "" + tie[mode]);
                    }
                }
            }
        }
    }

    private static BigDecimal beyond(int e) {
        return Model.powerOfTwo(1 << e - 1);
    }

    private static BigDecimal greatest(int e, int m) {
        return beyond(e).subtract(Model.powerOfTwo((1 << e - 1) - 1 - m));
    }

    private static void dueAndFlags(Check check, DecimalDesk desk, String call, String text, long want, int flags) {
        check.due(call + text, Check.read(desk, text), "" + want);
        check.due("flags() behind " + call + text, desk.clear(7), flags);
    }

    private static void aboveTheGreatest(Check check) {
        check.sentence("as if e could be as great as one likes: what comes above the greatest one is OVERFLOW");
        for (int e = 2; e <= 8; e++) {
            for (int m = 1; m <= 23; m++) {
                long infinite = (1L << e) - 1 << m;
                BigDecimal tie = greatest(e, m).add(beyond(e)).divide(Model.TWO);
                for (int mode : new int[] {0, 4}) {
                    dueAndFlags(check, desk(e, m, mode), name(e, m, mode), Check.beside(tie, 0), infinite, 3);
                    dueAndFlags(check, desk(e, m, mode), name(e, m, mode), Check.beside(beyond(e), 0), infinite, 3);
                }
                dueAndFlags(check, desk(e, m, 2), name(e, m, 2), Check.beside(greatest(e, m), 1), infinite, 3);
                dueAndFlags(check, desk(e, m, 3), name(e, m, 3), Check.beside(beyond(e), 0), infinite - 1, 3);
                dueAndFlags(check, desk(e, m, 1), name(e, m, 1), Check.beside(beyond(e), 0), infinite - 1, 3);
            }
        }
    }

    private static void notAboveTheGreatest(Check check) {
        check.sentence("as if e could be as great as one likes: what comes not above the greatest one is no OVERFLOW");
        for (int e = 2; e <= 8; e++) {
            for (int m = 1; m <= 23; m++) {
                long greatest = ((1L << e) - 1 << m) - 1;
                BigDecimal tie = greatest(e, m).add(beyond(e)).divide(Model.TWO);
                String itself = Check.beside(greatest(e, m), 0);
                for (int mode = 0; mode <= 4; mode++) {
                    dueAndFlags(check, desk(e, m, mode), name(e, m, mode), itself, greatest, 0);
                }
                for (int mode : new int[] {0, 4}) {
                    dueAndFlags(check, desk(e, m, mode), name(e, m, mode), Check.beside(tie, -1), greatest, 1);
                }
                for (int mode : new int[] {1, 3}) {
                    dueAndFlags(check, desk(e, m, mode), name(e, m, mode), Check.beside(tie, 0), greatest, 1);
                    dueAndFlags(check, desk(e, m, mode), name(e, m, mode), Check.beside(beyond(e), -1), greatest, 1);
                }
                long sign = 1L << e + m;
                dueAndFlags(check, desk(e, m, 2), name(e, m, 2), "-" + Check.beside(beyond(e), -1), sign + greatest, 1);
            }
        }
    }

    private static void overflowByMode(Check check) {
        check.sentence("By OVERFLOW it becomes, by 0, 4: INFINITE");
        overflow(check, 0, true, true);
        overflow(check, 4, true, true);
        check.sentence("By OVERFLOW it becomes, by 1: the greatest finite one");
        overflow(check, 1, false, false);
        check.sentence("By OVERFLOW it becomes, by 2: INFINITE above 0, the greatest finite one below 0");
        overflow(check, 2, true, false);
        check.sentence("By OVERFLOW it becomes, by 3: the other way round");
        overflow(check, 3, false, true);
    }

    private static void overflow(Check check, int mode, boolean infiniteAbove, boolean infiniteBelow) {
        int[][] formats = {{2, 1}, {2, 23}, {4, 3}, {8, 1}, {8, 23}};
        for (int[] format : formats) {
            int e = format[0];
            int m = format[1];
            long infinite = (1L << e) - 1 << m;
            long sign = 1L << e + m;
            for (String text : new String[] {Check.beside(beyond(e), 0), "1e999", "9".repeat(40) + "e+999"}) {
                dueAndFlags(check, desk(e, m, mode), name(e, m, mode), text,
                        infiniteAbove ? infinite : infinite - 1, 3);
                dueAndFlags(check, desk(e, m, mode), name(e, m, mode), "-" + text,
                        sign + (infiniteBelow ? infinite : infinite - 1), 3);
            }
        }
    }

    private static void signOfTheText(Check check) {
        check.sentence("The SIGN is that of the text, of 0 and what becomes 0 too");
        String[] zeros = {"0", "00", "0.0", "0e0", "0e999", "0e-999", "0.0e+12", "0".repeat(40)};
        for (int mode = 0; mode <= 4; mode++) {
            for (String zero : zeros) {
                dueAndFlags(check, desk(4, 3, mode), name(4, 3, mode), zero, 0, 0);
                dueAndFlags(check, desk(4, 3, mode), name(4, 3, mode), "-" + zero, 128, 0);
            }
            dueAndFlags(check, desk(4, 3, mode), name(4, 3, mode), "1e-999", mode == 2 ? 1 : 0, 5);
            dueAndFlags(check, desk(4, 3, mode), name(4, 3, mode), "-1e-999", mode == 3 ? 129 : 128, 5);
            dueAndFlags(check, desk(4, 3, mode), name(4, 3, mode), "1", 56, 0);
            dueAndFlags(check, desk(4, 3, mode), name(4, 3, mode), "-1", 184, 0);
        }
    }
}
