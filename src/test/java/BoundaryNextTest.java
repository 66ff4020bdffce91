/** Promise 11, sentence by sentence: at 0, the least, the greatest, and with what is not finite or no PATTERN. */
public final class BoundaryNextTest {
    public static void main(String[] args) {
        Check check = new Check("BoundaryNextTest");
        byThisFormat(check);
        everyFormat(check);
        notFinite(check);
        noPattern(check);
        changesNothing(check);
        check.end();
    }

    private static void due(Check check, int e, int m, long pattern, boolean up, long want) {
        String call = "format(" + e + ", " + m + "), next(" + pattern + ", " + up + ")";
        check.due(call, Check.desk(e, m).next(pattern, up), want);
    }

    private static void byThisFormat(Check check) {
        check.sentence("Promise 11: the PATTERN (by this FORMAT)");
        // 120 is INFINITE, 255 NO NUMBER and 256 no PATTERN by 4, 3; all three are numbers by 8, 23.
        due(check, 4, 3, 119, true, 120);
        due(check, 4, 3, 120, true, -1);
        due(check, 4, 3, 255, true, -1);
        due(check, 4, 3, 256, true, -1);
        due(check, 8, 23, 119, true, 120);
        due(check, 8, 23, 120, true, 121);
        due(check, 8, 23, 255, true, 256);
        due(check, 8, 23, 256, true, 257);
        // 200 is below 0 by 4, 3, and above it by 8, 23.
        due(check, 4, 3, 200, true, 199);
        due(check, 8, 23, 200, true, 201);
        DecimalDesk desk = new DecimalDesk();
        check.due("next(0, false)", desk.next(0, false), 0x80000001L);
        desk.format(4, 3);
        check.due("next(0, false) behind format(4, 3)", desk.next(0, false), 129L);
        desk.format(9, 3);
        check.due("next(0, false) behind format(9, 3)", desk.next(0, false), 129L);
        desk.format(2, 1);
        check.due("next(0, false) behind format(2, 1)", desk.next(0, false), 9L);
    }

    private static void everyFormat(Check check) {
        check.sentence("Promise 11: up, the next greater one");
        forEveryFormat(check, BoundaryNextTest::nextGreater);
        check.sentence("Promise 11: else the next lesser one");
        forEveryFormat(check, BoundaryNextTest::nextLesser);
        check.sentence("Promise 11: INFINITE beyond the greatest");
        forEveryFormat(check, BoundaryNextTest::beyondTheGreatest);
        check.sentence("Promise 11: of 0, whatever its SIGN, the least size above or below");
        forEveryFormat(check, BoundaryNextTest::ofZero);
        check.sentence("Promise 11: what comes to 0 keeps its SIGN");
        forEveryFormat(check, BoundaryNextTest::toZero);
    }

    private interface Sentence {
        void hold(Check check, int e, int m);
    }

    private static void forEveryFormat(Check check, Sentence sentence) {
        for (int e = 2; e <= 8; e++) {
            for (int m = 1; m <= 23; m++) {
                sentence.hold(check, e, m);
            }
        }
    }

    private static void nextGreater(Check check, int e, int m) {
        long sign = 1L << e + m;
        long full = 1L << m;
        long infinite = (1L << e) - 1 << m;
        due(check, e, m, 1, true, 2);
        due(check, e, m, full - 1, true, full);
        due(check, e, m, full, true, full + 1);
        due(check, e, m, 2 * full - 1, true, 2 * full);
        due(check, e, m, infinite - 2, true, infinite - 1);
        due(check, e, m, sign + infinite - 1, true, sign + infinite - 2);
        due(check, e, m, sign + 2 * full, true, sign + 2 * full - 1);
        due(check, e, m, sign + full, true, sign + full - 1);
        due(check, e, m, sign + 2, true, sign + 1);
    }

    private static void nextLesser(Check check, int e, int m) {
        long sign = 1L << e + m;
        long full = 1L << m;
        long infinite = (1L << e) - 1 << m;
        due(check, e, m, 2, false, 1);
        due(check, e, m, full, false, full - 1);
        due(check, e, m, 2 * full, false, 2 * full - 1);
        due(check, e, m, infinite - 1, false, infinite - 2);
        due(check, e, m, sign + 1, false, sign + 2);
        due(check, e, m, sign + full - 1, false, sign + full);
        due(check, e, m, sign + full, false, sign + full + 1);
        due(check, e, m, sign + infinite - 2, false, sign + infinite - 1);
    }

    private static void beyondTheGreatest(Check check, int e, int m) {
        long sign = 1L << e + m;
        long infinite = (1L << e) - 1 << m;
        due(check, e, m, infinite - 1, true, infinite);
        due(check, e, m, sign + infinite - 1, false, sign + infinite);
    }

    private static void ofZero(Check check, int e, int m) {
        long sign = 1L << e + m;
        due(check, e, m, 0, true, 1);
        due(check, e, m, sign, true, 1);
        due(check, e, m, 0, false, sign + 1);
        due(check, e, m, sign, false, sign + 1);
    }

    private static void toZero(Check check, int e, int m) {
        long sign = 1L << e + m;
        due(check, e, m, 1, false, 0);
        due(check, e, m, sign + 1, true, sign);
    }

    private static void notFinite(Check check) {
        check.sentence("Promise 11: NONE for one that is not finite");
        forEveryFormat(check, BoundaryNextTest::noneOfTheInfinite);
    }

    private static void noneOfTheInfinite(Check check, int e, int m) {
        long sign = 1L << e + m;
        long infinite = (1L << e) - 1 << m;
        for (long size : new long[] {infinite, infinite + 1, sign - 1}) {
            for (boolean up : new boolean[] {true, false}) {
                due(check, e, m, size, up, DecimalDesk.NONE);
                due(check, e, m, sign + size, up, DecimalDesk.NONE);
            }
        }
    }

    private static void noPattern(Check check) {
        check.sentence("Promise 11: NONE for no PATTERN");
        forEveryFormat(check, BoundaryNextTest::noneOfNoPattern);
    }

    private static void noneOfNoPattern(Check check, int e, int m) {
        long beyond = 1L << 1 + e + m;
        for (long pattern : new long[] {-1, -2, beyond, beyond + 1, beyond + 2, 1L << 32, 1L << 33, 1L << 62,
            Long.MIN_VALUE, Long.MIN_VALUE + 1, Long.MIN_VALUE + 2, Long.MAX_VALUE}) {
            due(check, e, m, pattern, true, DecimalDesk.NONE);
            due(check, e, m, pattern, false, DecimalDesk.NONE);
        }
    }

    private static void changesNothing(Check check) {
        check.sentence("Promise 11: it only answers");
        for (long pattern : new long[] {0, 1, 56, 119, 120, 121, 128, 247, 248, 255, 256, -1, Long.MIN_VALUE}) {
            for (boolean up : new boolean[] {true, false}) {
                DecimalDesk desk = Check.busyDesk();
                desk.next(pattern, up);
                check.staysBusy("next(" + pattern + ", " + up + ")", desk);
            }
        }
    }
}
