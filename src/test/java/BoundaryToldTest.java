/** Promises 8 to 10, sentence by sentence: what is told of 0, the least, the greatest, INFINITE and NO NUMBER. */
public final class BoundaryToldTest {
    public static void main(String[] args) {
        Check check = new Check("BoundaryToldTest");
        infiniteOrNoNumber(check);
        minus(check);
        firstDigit(check);
        comesBack(check);
        endsOfTheRange(check);
        nearerBelow(check);
        aboveTheGreatest(check);
        leastDigits(check);
        nearest(check);
        lesserOfTwo(check);
        pointAndOthers(check);
        power(check);
        zero(check);
        byModeZeroInEveryMode(check);
        exactInfinite(check);
        aheadOfThePoint(check);
        behindThePoint(check);
        exactZeroAndMinus(check);
        howMany(check);
        noSuchPattern(check);
        letters(check);
        noSuchLetter(check);
        toldLast(check);
        check.end();
    }

    private static String name(int e, int m) {
        return "format(" + e + ", " + m + "), ";
    }

    private static void shortest(Check check, int e, int m, long pattern, String want) {
        check.due(name(e, m) + "shortest(" + pattern + ")", Check.shortest(Check.desk(e, m), pattern), want);
    }

    private static void exact(Check check, int e, int m, long pattern, String want) {
        check.due(name(e, m) + "exact(" + pattern + ")", Check.exact(Check.desk(e, m), pattern), want);
    }

    private static void infiniteOrNoNumber(Check check) {
        check.sentence("Promise 8: inf or nan (ahead of inf - if it is below 0)");
        for (int e = 2; e <= 8; e++) {
            for (int m = 1; m <= 23; m++) {
                long sign = 1L << e + m;
                long infinite = (1L << e) - 1 << m;
                shortest(check, e, m, infinite, "inf");
                shortest(check, e, m, sign + infinite, "-inf");
                for (long size : new long[] {infinite + 1, sign - 1}) {
                    shortest(check, e, m, size, "nan");
                    shortest(check, e, m, sign + size, "nan");
                }
            }
        }
    }

    private static void minus(Check check) {
        check.sentence("Promise 8: perhaps behind -");
        for (int e = 2; e <= 8; e++) {
            for (int m = 1; m <= 23; m++) {
                long sign = 1L << e + m;
                long infinite = (1L << e) - 1 << m;
                for (long size : new long[] {1, (1L << m) - 1, 1L << m, infinite - 1}) {
                    String above = Check.shortest(Check.desk(e, m), size);
                    check.due("no - ahead of " + above, above.charAt(0) == '-', false);
                    shortest(check, e, m, sign + size, "-" + above);
                }
            }
        }
    }

    private static void firstDigit(Check check) {
        check.sentence("Promise 8: one digit ahead of the point and the others behind it (the first one not 0)");
        shortest(check, 8, 23, 0x3DCCCCCDL, "1e-1");
        shortest(check, 8, 23, 0x3C23D70AL, "1e-2");
        shortest(check, 8, 23, 0x411FFFFFL, "9.999999e0");
        shortest(check, 8, 23, 0x41200000L, "1e1");
        shortest(check, 8, 23, 0x41200001L, "1.0000001e1");
        shortest(check, 8, 23, 0x447A0000L, "1e3");
        shortest(check, 8, 23, 0x4479FFFFL, "9.9999994e2");
        // 96 is told as 100, which has one digit more ahead of the point.
        shortest(check, 4, 3, 108, "1e2");
        shortest(check, 4, 3, 116, "2e2");
        shortest(check, 2, 23, 1, "1e-7");
    }

    /** Every number of every small format, and the edges of all: what is told is read as the same PATTERN. */
    private static void comesBack(Check check) {
        check.sentence("Promise 8: those that are ROUNDED to it by MODE 0");
        for (int e = 2; e <= 8; e++) {
            for (int m = 1; m <= 23; m++) {
                long sign = 1L << e + m;
                long full = 1L << m;
                long infinite = (1L << e) - 1 << m;
                for (long size : new long[] {0, 1, 2, full - 1, full, full + 1, 2 * full - 1, 2 * full, infinite - full,
                    infinite - 2, infinite - 1}) {
                    DecimalDesk desk = Check.desk(e, m);
                    String above = Check.shortest(desk, size);
                    check.due(name(e, m) + "read " + above, Check.read(desk, above), "" + size);
                    String below = Check.shortest(desk, sign + size);
                    check.due(name(e, m) + "read " + below, Check.read(desk, below), "" + (sign + size));
                }
            }
        }
    }

    private static void endsOfTheRange(Check check) {
        check.sentence("Promise 8: a middle between two is ROUNDED to the one whose m is even");
        // 50 lies in the middle of 48 (m even) and 52 (m odd), and so for the others.
        shortest(check, 4, 3, 100, "5e1");
        shortest(check, 4, 3, 101, "5.2e1");
        shortest(check, 4, 3, 108, "1e2");
        shortest(check, 4, 3, 109, "1.04e2");
        shortest(check, 4, 3, 116, "2e2");
        shortest(check, 4, 3, 117, "2.1e2");
        shortest(check, 4, 4, 209, "6.8e1");
        shortest(check, 4, 4, 210, "7e1");
        shortest(check, 5, 10, 27651, "4.108e3");
        shortest(check, 5, 10, 27652, "4.11e3");
        shortest(check, 8, 23, 0x4C5CB1BEL, "5.785369e7");
        shortest(check, 8, 23, 0x4C245F0DL, "4.3088948e7");
        shortest(check, 8, 1, 261, "1.2e1");
        shortest(check, 8, 1, 262, "2e1");
    }

    private static void nearerBelow(Check check) {
        check.sentence("Promise 8: where m is 0 the one below is nearer, but not where e is 1");
        shortest(check, 4, 3, 16, "3.1e-2");
        shortest(check, 4, 3, 96, "3.2e1");
        shortest(check, 5, 2, 120, "3.3e4");
        shortest(check, 8, 1, 24, "3e-35");
        shortest(check, 8, 1, 4, "2.4e-38");
        shortest(check, 8, 23, 0x0C000000L, "9.8607613e-32");
        shortest(check, 8, 23, 0x4C000000L, "3.3554432e7");
        shortest(check, 8, 23, 0x6F800000L, "7.9228163e28");
        shortest(check, 3, 1, 2, "2e-1");
        shortest(check, 5, 4, 16, "6e-5");
        shortest(check, 7, 2, 4, "2e-19");
        shortest(check, 8, 1, 2, "1e-38");
        shortest(check, 8, 20, 1 << 20, "1.175494e-38");
        shortest(check, 8, 23, 1 << 23, "1.1754944e-38");
    }

    private static void aboveTheGreatest(Check check) {
        check.sentence("Promise 8: what is above the greatest number may still be ROUNDED to it");
        shortest(check, 4, 1, 29, "2e2");
        shortest(check, 4, 4, 239, "2.5e2");
        shortest(check, 5, 1, 61, "5e4");
        shortest(check, 5, 2, 123, "6e4");
        shortest(check, 8, 1, 509, "2.6e38");
        shortest(check, 8, 2, 1019, "3e38");
        shortest(check, 8, 23, 0x7F7FFFFFL, "3.4028235e38");
        shortest(check, 8, 23, 0xFF7FFFFFL, "-3.4028235e38");
        shortest(check, 2, 1, 5, "3e0");
        // 14, the middle to what would be 16, is no more ROUNDED to 12.
        shortest(check, 3, 1, 13, "1.2e1");
    }

    private static void leastDigits(Check check) {
        check.sentence("Promise 8: one with the least digits");
        shortest(check, 8, 23, 1, "1e-45");
        shortest(check, 8, 23, 2, "3e-45");
        shortest(check, 8, 23, 0x80000001L, "-1e-45");
        shortest(check, 8, 1, 1, "6e-39");
        shortest(check, 2, 1, 1, "5e-1");
        shortest(check, 2, 1, 3, "1.5e0");
        shortest(check, 4, 3, 1, "2e-3");
        shortest(check, 4, 3, 119, "2.4e2");
        shortest(check, 8, 23, 0x3F800000L, "1e0");
        shortest(check, 8, 23, 0x3F800001L, "1.0000001e0");
        shortest(check, 8, 23, 0x4B800000L, "1.6777216e7");
        shortest(check, 8, 23, 0x501502F9L, "1e10");
        // 1073741952, and 48 above it: the middle to the next one is 64 above.
        shortest(check, 8, 23, 0x4E800001L, "1.073742e9");
        // Nine digits are the most.
        shortest(check, 8, 23, 0x29FE2401L, "1.12861116e-13");
        shortest(check, 8, 23, 0x5BBC8F84L, "1.06150185e17");
    }

    private static void nearest(Check check) {
        check.sentence("Promise 8: of these the nearest one to it");
        // 2^-149 is 1.4e-45: 1e-45 and 2e-45 both come back.
        shortest(check, 8, 23, 1, "1e-45");
        // 3 * 2^-149 is 4.2e-45: 4e-45 comes back, and so does no other one; 7 * 2^-149 is 9.8e-45.
        shortest(check, 8, 23, 3, "4e-45");
        shortest(check, 8, 23, 7, "1e-44");
        // 2^-9 is 0.00195: 1e-3, which is just within, and 2e-3.
        shortest(check, 4, 3, 1, "2e-3");
        // 2^-127 is 5.9e-39: 3e-39 to 8e-39 all come back.
        shortest(check, 8, 1, 1, "6e-39");
        shortest(check, 2, 4, 47, "3.9e0");
        shortest(check, 8, 23, 0x3F800005L, "1.0000006e0");
    }

    private static void lesserOfTwo(Check check) {
        check.sentence("Promise 8: of two the one of less size");
        shortest(check, 2, 2, 1, "2e-1");
        shortest(check, 2, 2, 3, "7e-1");
        shortest(check, 2, 2, 5, "1.2e0");
        shortest(check, 2, 2, 16 + 5, "-1.2e0");
        shortest(check, 3, 1, 5, "7e-1");
        shortest(check, 3, 1, 16 + 5, "-7e-1");
        shortest(check, 4, 3, 24, "6.2e-2");
        shortest(check, 4, 3, 67, "2.7e0");
        shortest(check, 5, 10, 8192, "7.812e-3");
        shortest(check, 2, 23, 98304, "1.17187e-2");
        shortest(check, 8, 23, 0x49E921E2L, "1.9098202e6");
        shortest(check, 8, 23, 0xC9E921E2L, "-1.9098202e6");
    }

    private static void pointAndOthers(Check check) {
        check.sentence("Promise 8: the first digit, then, if there are others, . and these");
        shortest(check, 4, 3, 56, "1e0");
        shortest(check, 4, 3, 57, "1.1e0");
        shortest(check, 4, 3, 109, "1.04e2");
        shortest(check, 4, 3, 128 + 57, "-1.1e0");
        shortest(check, 8, 23, 0x40A00000L, "5e0");
        shortest(check, 8, 23, 0x40A00001L, "5.0000005e0");
        shortest(check, 8, 23, 0x42CA0000L, "1.01e2");
    }

    private static void power(Check check) {
        check.sentence("Promise 8: then e and the exponent (- ahead, if it is below 0; no zeros ahead)");
        shortest(check, 8, 23, 0x3F800000L, "1e0");
        shortest(check, 8, 23, 0x41100000L, "9e0");
        shortest(check, 8, 23, 0x41200000L, "1e1");
        shortest(check, 8, 23, 0x4E6E6B28L, "1e9");
        shortest(check, 8, 23, 0x501502F9L, "1e10");
        shortest(check, 8, 23, 0x7E967699L, "1e38");
        shortest(check, 8, 23, 0x3F666666L, "9e-1");
        shortest(check, 8, 23, 0x3089705FL, "1e-9");
        shortest(check, 8, 23, 0x2EDBE6FFL, "1e-10");
        shortest(check, 8, 23, 0x00000001L, "1e-45");
        shortest(check, 8, 23, 0x80000001L, "-1e-45");
    }

    private static void zero(Check check) {
        check.sentence("Promise 8: of 0: 0e0");
        for (int e = 2; e <= 8; e++) {
            for (int m = 1; m <= 23; m++) {
                shortest(check, e, m, 0, "0e0");
                shortest(check, e, m, 1L << e + m, "-0e0");
            }
        }
    }

    private static void byModeZeroInEveryMode(Check check) {
        check.sentence("Promise 8: by MODE 0, whatever the MODE is, and raising no FLAGS");
        for (int mode = 0; mode <= 4; mode++) {
            DecimalDesk desk = new DecimalDesk();
            desk.format(4, 3);
            desk.mode(mode);
            check.due("shortest(57) in mode " + mode, Check.shortest(desk, 57), "1.1e0");
            check.due("shortest(185) in mode " + mode, Check.shortest(desk, 185), "-1.1e0");
            check.due("shortest(100) in mode " + mode, Check.shortest(desk, 100), "5e1");
            check.due("shortest(119) in mode " + mode, Check.shortest(desk, 119), "2.4e2");
            check.due("shortest(1) in mode " + mode, Check.shortest(desk, 1), "2e-3");
            check.due("exact(57) in mode " + mode, Check.exact(desk, 57), "1.125");
            check.due("flags() behind them", desk.flags(), 0);
            check.due("read 1.07, the MODE stays", Check.read(desk, "1.07"), mode == 1 || mode == 3 ? "56" : "57");
        }
    }

    private static void exactInfinite(Check check) {
        check.sentence("Promise 9: inf or nan as for shortest()");
        for (int e = 2; e <= 8; e++) {
            for (int m = 1; m <= 23; m++) {
                long sign = 1L << e + m;
                long infinite = (1L << e) - 1 << m;
                exact(check, e, m, infinite, "inf");
                exact(check, e, m, sign + infinite, "-inf");
                for (long size : new long[] {infinite + 1, sign - 1}) {
                    exact(check, e, m, size, "nan");
                    exact(check, e, m, sign + size, "nan");
                }
            }
        }
    }

    private static void aheadOfThePoint(Check check) {
        check.sentence("Promise 9: those ahead of the point without zeros ahead (0 if there are none)");
        exact(check, 8, 23, 0x3F800000L, "1");
        exact(check, 8, 23, 0x3F7FFFFFL, "0.999999940395355224609375");
        exact(check, 8, 23, 0x3F000000L, "0.5");
        exact(check, 4, 3, 1, "0.001953125");
        exact(check, 8, 23, 1, Model.powerOfTwo(-149).toPlainString());
        exact(check, 8, 23, 0x41200000L, "10");
        exact(check, 8, 23, 0x4E6E6B28L, "1000000000");
        exact(check, 8, 23, 0x4E6E6B27L, "999999936");
        exact(check, 8, 23, 0x501502F9L, "10000000000");
        exact(check, 8, 23, 0x5D5E0B6BL, "999999984306749440");
        exact(check, 8, 23, 0x7F7FFFFFL, "340282346638528859811704183484516925440");
        exact(check, 8, 1, 509, "255211775190703847597530955573826158592");
        exact(check, 2, 1, 5, "3");
        exact(check, 4, 3, 119, "240");
    }

    private static void behindThePoint(Check check) {
        check.sentence("Promise 9: then, if there are some behind it, . and these without zeros at the end");
        exact(check, 2, 1, 1, "0.5");
        exact(check, 2, 1, 2, "1");
        exact(check, 2, 1, 3, "1.5");
        exact(check, 2, 1, 4, "2");
        exact(check, 4, 3, 1, "0.001953125");
        exact(check, 4, 3, 2, "0.00390625");
        exact(check, 4, 3, 4, "0.0078125");
        exact(check, 4, 3, 8, "0.015625");
        exact(check, 8, 23, 0x42C80000L, "100");
        exact(check, 8, 23, 0x42C90000L, "100.5");
        exact(check, 8, 23, 0x4B000000L, "8388608");
        exact(check, 8, 23, 0x4AFFFFFFL, "8388607.5");
        exact(check, 8, 23, 0x3F800001L, "1.00000011920928955078125");
        exact(check, 8, 23, 1, Model.powerOfTwo(-149).toPlainString());
        exact(check, 8, 23, 0x00800000L, Model.powerOfTwo(-126).toPlainString());
        exact(check, 8, 23, 0x00400000L, Model.powerOfTwo(-127).toPlainString());
    }

    private static void exactZeroAndMinus(Check check) {
        check.sentence("Promise 9: perhaps behind -, of 0 too");
        for (int e = 2; e <= 8; e++) {
            for (int m = 1; m <= 23; m++) {
                long sign = 1L << e + m;
                long infinite = (1L << e) - 1 << m;
                exact(check, e, m, 0, "0");
                exact(check, e, m, sign, "-0");
                for (long size : new long[] {1, (1L << m) - 1, 1L << m, infinite - 1}) {
                    String above = Check.exact(Check.desk(e, m), size);
                    check.due("no - ahead of " + above, above.charAt(0) == '-', false);
                    exact(check, e, m, sign + size, "-" + above);
                }
            }
        }
    }

    private static void howMany(Check check) {
        check.sentence("Promises 8 and 9: how many letters");
        DecimalDesk desk = new DecimalDesk();
        check.due("shortest of 0", desk.shortest(0), 3);
        check.due("shortest of 0 below 0", desk.shortest(0x80000000L), 4);
        check.due("shortest of inf", desk.shortest(0x7F800000L), 3);
        check.due("shortest of -inf", desk.shortest(0xFF800000L), 4);
        check.due("shortest of nan", desk.shortest(0xFFFFFFFFL), 3);
        check.due("shortest of 1", desk.shortest(0x3F800000L), 3);
        // -1.12861116e-13: no other one is longer.
        check.due("shortest of a longest one", desk.shortest(0xA9FE2401L), 15);
        check.due("exact of 0", desk.exact(0), 1);
        check.due("exact of 0 below 0", desk.exact(0x80000000L), 2);
        check.due("exact of inf", desk.exact(0x7F800000L), 3);
        check.due("exact of -inf", desk.exact(0xFF800000L), 4);
        check.due("exact of nan", desk.exact(0xFFFFFFFFL), 3);
        check.due("exact of the greatest", desk.exact(0x7F7FFFFFL), 39);
        check.due("exact of the least", desk.exact(1), 151);
        check.due("exact of the least below 0", desk.exact(0x80000001L), 152);
        check.due("exact of the longest", desk.exact(0x807FFFFFL), 152);
        check.due("letter(151)", Check.letter(desk, 151), "" + (int) '5');
    }

    private static void noSuchPattern(Check check) {
        for (boolean all : new boolean[] {false, true}) {
            String call = all ? "exact" : "shortest";
            check.sentence("Promise " + (all ? 9 : 8) + ": IllegalArgumentException: there is no such PATTERN"
                    + " (what was told last stays)");
            for (long pattern : new long[] {-1, -2, 256, 257, 256 + 57, 1L << 31, 1L << 32, 1L << 62, Long.MIN_VALUE,
                Long.MIN_VALUE + 57, Long.MAX_VALUE}) {
                DecimalDesk desk = Check.busyDesk();
                String got = all ? Check.exact(desk, pattern) : Check.shortest(desk, pattern);
                check.due(call + "(" + pattern + ")", got, Check.ILLEGAL);
                check.staysBusy(call + "(" + pattern + ")", desk);
                DecimalDesk silent = new DecimalDesk();
                silent.format(4, 3);
                got = all ? Check.exact(silent, pattern) : Check.shortest(silent, pattern);
                check.due(call + "(" + pattern + ")", got, Check.ILLEGAL);
                check.due("nothing told behind it", Check.toldBy(silent), "");
            }
            DecimalDesk desk = Check.busyDesk();
            check.due(call + "(255), the last one", all ? desk.exact(255) : desk.shortest(255), 3);
            check.due("what was told", Check.toldBy(desk), "nan");
        }
    }

    private static void letters(Check check) {
        check.sentence("Promise 10: letter i of what was told last");
        DecimalDesk desk = new DecimalDesk();
        desk.shortest(0xBDCCCCCDL);
        lettersAre(check, desk, "-1e-1");
        desk.exact(0xC2C90000L);
        lettersAre(check, desk, "-100.5");
        desk.exact(0);
        lettersAre(check, desk, "0");
        desk.exact(0xFF800000L);
        lettersAre(check, desk, "-inf");
        desk.shortest(0xFFFFFFFFL);
        lettersAre(check, desk, "nan");
        desk.exact(1);
        lettersAre(check, desk, Model.powerOfTwo(-149).toPlainString());
    }

    private static void lettersAre(Check check, DecimalDesk desk, String text) {
        for (int i = text.length() - 1; i >= 0; i--) {
            check.due("letter(" + i + ") of " + text, Check.letter(desk, i), "" + (int) text.charAt(i));
        }
    }

    private static void noSuchLetter(Check check) {
        check.sentence("Promise 10: NoSuchElementException: there is none such");
        noneBeside(check, new DecimalDesk(), 0);
        for (long pattern : new long[] {0, 0x80000000L, 0x3F800000L, 0x7F800000L, 0xFFFFFFFFL, 0x7F7FFFFFL, 1,
            0x80000001L}) {
            DecimalDesk desk = new DecimalDesk();
            noneBeside(check, desk, 0);
            noneBeside(check, desk, desk.exact(pattern));
            noneBeside(check, desk, desk.shortest(pattern));
        }
        DecimalDesk desk = Check.busyDesk();
        Check.letter(desk, 6);
        Check.letter(desk, -1);
        check.staysBusy("letter(6) and letter(-1)", desk);
    }

    private static void noneBeside(Check check, DecimalDesk desk, int length) {
        for (int i : new int[] {length, length + 1, length + 256, -1, -2, -256, 160, 1000, Integer.MIN_VALUE,
            Integer.MIN_VALUE + 1, Integer.MAX_VALUE}) {
            check.due("letter(" + i + ") of " + length, Check.letter(desk, i), Check.NO_SUCH);
        }
    }

    private static void toldLast(Check check) {
        check.sentence("Promise 10: told last, by whichever of the two");
        DecimalDesk desk = new DecimalDesk();
        desk.exact(1);
        desk.shortest(1);
        check.due("shortest behind the longest", Check.toldBy(desk), "1e-45");
        desk.exact(0);
        check.due("exact, the shortest there is", Check.toldBy(desk), "0");
        desk.shortest(0);
        check.due("shortest behind it", Check.toldBy(desk), "0e0");
        desk.format(2, 1);
        check.due("behind format", Check.toldBy(desk), "0e0");
        Check.read(desk, "1.5");
        Check.read(desk, "x");
        check.due("behind read", Check.toldBy(desk), "0e0");
    }
}
