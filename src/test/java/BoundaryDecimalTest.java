/** The Term DECIMAL, sentence by sentence: with the fewest and the most of each part, one beyond, and none. */
public final class BoundaryDecimalTest {
    private static final String NO = Check.ILLEGAL;
    private static final String ZEROS = "0".repeat(39);

    public static void main(String[] args) {
        Check check = new Check("BoundaryDecimalTest");
        minus(check);
        digits(check);
        point(check);
        pointCountsNoDigit(check);
        power(check);
        powersSign(check);
        powersDigits(check);
        value(check);
        farValue(check);
        check.end();
    }

    /** Text and what is due, pairwise; a due text that is a number stands for the float of that value. */
    private static void rows(Check check, String... rows) {
        for (int i = 0; i < rows.length; i += 2) {
            String want = rows[i + 1].equals(NO) ? NO : "" + pattern(rows[i + 1]);
            check.due("read " + rows[i], Check.read(new DecimalDesk(), rows[i]), want);
        }
    }

    private static long pattern(String number) {
        return Float.floatToRawIntBits(Float.parseFloat(number)) & 0xFFFFFFFFL;
    }

    private static void minus(Check check) {
        check.sentence("DECIMAL: perhaps -");
        rows(check, "5", "5", "-5", "-5", "-", NO, "--5", NO, "+5", NO, "-+5", NO, "+-5", NO, "5-", NO, "-5-", NO,
                "-0", "-0.0", "0", "0", "-0.0", "-0.0");
    }

    private static void digits(Check check) {
        check.sentence("DECIMAL: then 1 to 40 digits");
        rows(check, "", NO, "-", NO, "e5", NO, "-e5", NO, "x", NO, "0", "0", "9", "9", "/", NO, ":", NO,
                ZEROS + "7", "7", "-" + ZEROS + "7", "-7", ZEROS + "7e2", "700", ZEROS + "07", NO,
                "-" + ZEROS + "07", NO, ZEROS + "07e2", NO, ZEROS + "00", NO, "0".repeat(60), NO, "1".repeat(41), NO,
                "1" + ZEROS, "1e39", "1" + ZEROS + "0", NO, "1" + ZEROS + "0e-99", NO);
    }

    private static void point(Check check) {
        check.sentence("DECIMAL: among which a . may stand (with a digit at least on each side)");
        rows(check, "1.5", "1.5", "0.5", "0.5", "-1.5", "-1.5", ".", NO, "-.", NO, ".5", NO, "-.5", NO, "5.", NO,
                "-5.", NO, ".5e1", NO, "5.e1", NO, "1..5", NO, "1.5.", NO, ".1.5", NO, "1.5.5", NO, "1,5", NO,
                ".e1", NO);
    }

    private static void pointCountsNoDigit(Check check) {
        check.sentence("DECIMAL: the 1 to 40 digits stand on both sides of the .");
        rows(check, "0." + ZEROS.substring(1) + "7", "7e-39", ZEROS + ".7", "0.7",
                "0".repeat(20) + "7.5" + "0".repeat(18), "7.5", "-" + ZEROS + ".7e+001", "-7",
                "0." + ZEROS + "7", NO, ZEROS + "0.7", NO, "0".repeat(20) + "7.5" + "0".repeat(19), NO,
                "-" + ZEROS + "0.7e+001", NO);
    }

    private static void power(Check check) {
        check.sentence("DECIMAL: then perhaps e");
        rows(check, "7", "7", "7e0", "7", "7e", NO, "7E0", NO, "7ee0", NO, "7e0e0", NO, "e0", NO, "7e0x", NO,
                "7x", NO, "7x0", NO, "7d", NO, "7f", NO);
    }

    private static void powersSign(Check check) {
        check.sentence("DECIMAL: e, with perhaps + or - behind it");
        rows(check, "7e1", "70", "7e+1", "70", "7e-1", "0.7", "7e+0", "7", "7e-0", "7", "7e+", NO, "7e-", NO,
                "7e++1", NO, "7e--1", NO, "7e+-1", NO, "7e-+1", NO, "7e1+", NO, "7e1-", NO, "7+1", NO, "7-1", NO,
                "7e*1", NO);
    }

    private static void powersDigits(Check check) {
        check.sentence("DECIMAL: 1 to 3 digits behind the e");
        rows(check, "7e", NO, "7e+", NO, "7e-", NO, "7e1", "70", "7e01", "70", "7e001", "70", "7e0001", NO,
                "7e+001", "70", "7e+0001", NO, "7e-001", "0.7", "7e-0001", NO, "7e000", "7", "7e0000", NO,
                "7e1.0", NO, "7e.1", NO, "0e999", "0", "0e1000", NO, "0e-999", "0", "0e-1000", NO, "7e/", NO,
                "7e:", NO, "7e1:", NO);
    }

    private static void value(Check check) {
        check.sentence("DECIMAL: its value is just that (digits * 10^exponent)");
        rows(check, "00012.500e1", "125", "0.00125e5", "125", "12500e-2", "125", "1.25e2", "125",
                "-0.125e+003", "-125", "16777216", "16777216", "16777217", "16777216", "1.6777217e7", "16777216",
                "16777219", "16777220", "16777217.00000000000000000000000000000001", "16777218",
                "1677721700000000000000000000000000000001e-32", "16777218", "1.000000059604644775390625", "1",
                "1.000000059604644775390625000000000000001", "1.0000001");
    }

    private static void farValue(Check check) {
        check.sentence("DECIMAL: the value of digits and an exponent that each go far alone");
        String least = "0." + ZEROS.substring(1);
        rows(check, least + "1e39", "1", "1" + ZEROS + "e-39", "1", least + "1e77", "1e38",
                "1" + ZEROS + "e-84", "1e-45", least + "1e999", "1e99", "1" + ZEROS + "e-999", "0",
                "-1" + ZEROS + "e-999", "-0.0", "9".repeat(40) + "e999", "1e99",
                "-" + "9".repeat(40) + "e999", "-1e99", "1e-999", "0", "1e999", "1e99", ZEROS + "0e999", "0",
                "-" + ZEROS + "0e-999", "-0.0");
    }
}
