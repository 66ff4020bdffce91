import java.math.BigDecimal;

/** The Term FLAGS, and promises 6 and 7, sentence by sentence. */
public final class BoundaryFlagsTest {
    private static final int[] MASKS = {0, 1, 2, 3, 4, 5, 6, 7, 8, 9, 15, 16, 255, -1, -2, -3, -5, -8, ~7,
        Integer.MIN_VALUE, Integer.MIN_VALUE + 1, Integer.MAX_VALUE};

    public static void main(String[] args) {
        Check check = new Check("BoundaryFlagsTest");
        theyStay(check);
        inexact(check);
        overflowAlways(check);
        overflow(check);
        underflow(check);
        underflowByTheDecimal(check);
        noUnderflow(check);
        flags(check);
        clear(check);
        clearAnswers(check);
        check.end();
    }

    /** FORMAT 4, 3: the FLAGS of a new object behind this text in this MODE. */
    private static void dueFlags(Check check, int mode, String text, int want) {
        DecimalDesk desk = new DecimalDesk();
        desk.format(4, 3);
        desk.mode(mode);
        check.due("read " + text + " is a DECIMAL", Check.read(desk, text).equals(Check.ILLEGAL), false);
        check.due("mode(" + mode + "), flags() behind " + text, desk.flags(), want);
    }

    private static void inEveryMode(Check check, int want, String... texts) {
        for (String text : texts) {
            for (int mode = 0; mode <= 4; mode++) {
                dueFlags(check, mode, text, want);
                dueFlags(check, mode, "-" + text, want);
            }
        }
    }

    /** A desk on which just these FLAGS are raised. */
    private static DecimalDesk raised(int flags) {
        DecimalDesk desk = new DecimalDesk();
        Check.read(desk, "1e99");
        Check.read(desk, "1e-99");
        desk.clear(7 - flags);
        return desk;
    }

    private static void theyStay(Check check) {
        check.sentence("FLAGS stay until they are cleared");
        for (int flags = 0; flags < 8; flags++) {
            DecimalDesk desk = raised(flags);
            Check.read(desk, "1.5");
            Check.read(desk, "-0");
            Check.read(desk);
            Check.read(desk, "x");
            desk.format(3, 2);
            desk.format(1, 2);
            desk.mode(4);
            desk.mode(5);
            desk.type(0, 1);
            Check.shortest(desk, 3);
            Check.shortest(desk, -1);
            Check.exact(desk, 28);
            Check.exact(desk, 64);
            Check.letter(desk, 0);
            Check.letter(desk, 9);
            desk.next(27, true);
            desk.next(28, true);
            desk.clear(0);
            desk.clear(~7);
            check.due("flags() behind all other calls", desk.flags(), flags);
            Check.read(desk, "0.2");
            check.due("flags() with one more", desk.flags(), flags | 5);
        }
    }

    private static void inexact(Check check) {
        check.sentence("1 INEXACT: what came is another value than the DECIMAL's");
        inEveryMode(check, 0, "0", "0e999", "0e-999", "1", "1.125", "1.125000000000000000000000000000000000000",
                "0000000000000000000000000000000000001.50", "15e-1", "240", "0.24e3", "0.015625");
        inEveryMode(check, 1, "1.000000000000000000000000000000000000001", "0." + "9".repeat(39),
                "1.124999999999999999999999999999999999999", "1.0625", "0.1", "239.9", "0.0156250000000001");
    }

    private static void overflowAlways(Check check) {
        check.sentence("INEXACT (OVERFLOW always)");
        // 256 would be a number of the FORMAT, if only e were greater: by itself nothing would be lost.
        inEveryMode(check, 3, "256", "2.56e2", "512", "1e999");
        for (int mode : new int[] {0, 4}) {
            dueFlags(check, mode, "248", 3);
            dueFlags(check, mode, "-248", 3);
        }
    }

    private static void overflow(Check check) {
        check.sentence("2 OVERFLOW: raised by it, and by nothing else");
        inEveryMode(check, 3, "256", "1e999");
        inEveryMode(check, 0, "240");
        inEveryMode(check, 5, "1e-999");
        int[] justAbove = {1, 1, 3, 1, 1};
        int[] justBelowTheMiddle = {1, 1, 3, 1, 1};
        int[] middle = {3, 1, 3, 1, 3};
        int[] justBelowBeyond = {3, 1, 3, 1, 3};
        for (int mode = 0; mode <= 4; mode++) {
            dueFlags(check, mode, "240.0000000000000000000000000000000000001", justAbove[mode]);
            dueFlags(check, mode, "247.9999999999999999999999999999999999999", justBelowTheMiddle[mode]);
            dueFlags(check, mode, "248", middle[mode]);
            dueFlags(check, mode, "255.9999999999999999999999999999999999999", justBelowBeyond[mode]);
        }
        dueFlags(check, 2, "-240.5", 1);
        dueFlags(check, 3, "-240.5", 3);
    }

    private static void underflow(Check check) {
        check.sentence("4 UNDERFLOW: INEXACT, and the DECIMAL's size is below 2^(1 - BIAS)");
        inEveryMode(check, 5, "1e-999", "0." + "0".repeat(38) + "1", "0.0009765625", "0.001", "0.002", "0.0146484375",
                "1.367187500000000000000000000000000000001e-2");
        for (int e = 2; e <= 8; e++) {
            for (int m = 1; m <= 23; m++) {
                BigDecimal edge = Model.powerOfTwo(2 - (1 << e - 1));
                String below = Check.beside(edge, fits(edge) ? -1 : 0);
                check.due("format(" + e + ", " + m + "), flags() behind " + below, flagsBehind(e, m, below), 5);
            }
        }
    }

    private static boolean fits(BigDecimal value) {
        return value.precision() <= 40;
    }

    private static int flagsBehind(int e, int m, String text) {
        DecimalDesk desk = Check.desk(e, m);
        Check.read(desk, text);
        return desk.flags();
    }

    private static void underflowByTheDecimal(Check check) {
        check.sentence("4 UNDERFLOW: the DECIMAL's size counts, not that of what came");
        for (int mode = 0; mode <= 4; mode++) {
            for (String sign : new String[] {"", "-"}) {
                DecimalDesk desk = new DecimalDesk();
                desk.format(4, 3);
                desk.mode(mode);
                // Just below 2^-6; it becomes 2^-6 itself where it goes farther from 0.
                boolean grows = mode == 0 || mode == 4 || mode == (sign.isEmpty() ? 2 : 3);
                int size = (grows ? 8 : 7) + (sign.isEmpty() ? 0 : 128);
                String text = sign + "1.562499999999999999999999999999999999999e-2";
                check.due("mode(" + mode + "), read " + text, Check.read(desk, text), "" + size);
                check.due("flags() behind it", desk.flags(), 5);
            }
        }
    }

    private static void noUnderflow(Check check) {
        check.sentence("4 UNDERFLOW: not where nothing is lost, and not from 2^(1 - BIAS) on");
        inEveryMode(check, 0, "0", "0.001953125", "0.00390625", "0.013671875", "0.015625");
        inEveryMode(check, 1, "1.562500000000000000000000000000000000001e-2", "0.0166015625", "0.017");
        for (int e = 2; e <= 8; e++) {
            for (int m = 1; m <= 23; m++) {
                BigDecimal edge = Model.powerOfTwo(2 - (1 << e - 1));
                String above = Check.beside(edge, 1);
                check.due("format(" + e + ", " + m + "), flags() behind " + above, flagsBehind(e, m, above), 1);
                String at = Check.beside(edge, 0);
                if (fits(edge)) {
                    check.due("format(" + e + ", " + m + "), flags() behind " + at, flagsBehind(e, m, at), 0);
                }
            }
        }
    }

    private static void flags(Check check) {
        check.sentence("Promise 6: the FLAGS");
        check.due("flags() of a new object", new DecimalDesk().flags(), 0);
        for (int flags = 0; flags < 8; flags++) {
            DecimalDesk desk = raised(flags);
            check.due("flags()", desk.flags(), flags);
            check.due("flags() again", desk.flags(), flags);
        }
        DecimalDesk desk = Check.busyDesk();
        desk.flags();
        check.staysBusy("flags()", desk);
    }

    private static void clear(Check check) {
        check.sentence("Promise 7: the FLAGS that are in mask go");
        for (int flags = 0; flags < 8; flags++) {
            for (int mask : MASKS) {
                DecimalDesk desk = raised(flags);
                desk.clear(mask);
                check.due("flags() behind clear(" + mask + ") of " + flags, desk.flags(), flags & ~mask);
            }
        }
        for (int mask : new int[] {0, 2, 8, ~7, Integer.MIN_VALUE}) {
            DecimalDesk desk = Check.busyDesk();
            desk.clear(mask);
            check.staysBusy("clear(" + mask + "), which none of the FLAGS is in,", desk);
        }
    }

    private static void clearAnswers(Check check) {
        check.sentence("Promise 7: those that there were");
        for (int flags = 0; flags < 8; flags++) {
            for (int mask : MASKS) {
                DecimalDesk desk = raised(flags);
                check.due("clear(" + mask + ") of " + flags, desk.clear(mask), flags & mask);
                check.due("clear(" + mask + ") again", desk.clear(mask), 0);
            }
        }
        check.due("clear(-1) of a new object", new DecimalDesk().clear(-1), 0);
    }
}
