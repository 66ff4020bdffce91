import java.math.BigDecimal;

/** Promise 5: what is a DECIMAL and what is none, and the PATTERN that it is ROUNDED to. */
public final class ReadTest {
    private static final String NINES = "9999999999999999999999999999999999999999";
    private static final String ZEROS = "0000000000000000000000000000000000000000";

    public static void main(String[] args) {
        Check check = new Check("ReadTest");
        decimals(check);
        noDecimals(check);
        tapeIsEmptyThen(check);
        edgesOfASmallFormat(check);
        overflowByMode(check);
        tinyByMode(check);
        signOfZero(check);
        farPowers(check);
        middlesOfFloats(check);
        check.end();
    }

    private static void decimals(Check check) {
        String[] texts = {"0", "1", "9", "00", "007", "1.5", "0.5", "00.50", "123.456", "1e0", "1e1", "1e+1",
            "1e-1", "1e01", "1e+001", "1e-001", "1e10", "1e-10", "2.5e3", "-1", "-0.1e-3", "0e999", "0.0e-999",
            "1e000", "1e-0", "1e+0", NINES, "-" + NINES, NINES.substring(1) + ".9", "9." + NINES.substring(1),
            "-9." + NINES.substring(1) + "e-002", "0." + ZEROS.substring(2) + "1", ZEROS, "3.4028235e38",
            "1.17549435e-38", "1.4e-45", "16777217", "16777217.0000000001", "8388608.5", "8388609.5"};
        for (String text : texts) {
            String want = "" + (Float.floatToIntBits(new BigDecimal(text).floatValue()) & 0x7FFFFFFFL
                    | (text.charAt(0) == '-' ? 1L << 31 : 0));
            check.due("read " + text, Check.read(new DecimalDesk(), text), want);
        }
    }

    private static void noDecimals(Check check) {
        String[] texts = {"", "-", "--1", "+1", "+", ".", ".5", "5.", "-.5", "-5.", "1..2", "1.2.3", ".e1", "1.e1",
            "e", "e1", "-e1", "1e", "1e+", "1e-", "1e+-1", "1e--1", "1e++1", "1e1234", "1e0001", "1e+1000", "1e1.0",
            "1e1e1", "1ee1", "1E1", "1e1-", "1-", "1+1", "1e1+", "1x", "x1", "0x1", "1,5", "1/2", "1:", "1e:", "1e/",
            "inf", "-inf", "nan", "1f", "1d", "NaN", "1_0", "/", ":", "-1-1", "1.-5", "1e1x", "1e111x",
            "0" + NINES, "0" + ZEROS, NINES + "0", NINES + ".0", "0." + NINES, "-0" + NINES, "0" + NINES + "e1",
            ZEROS + ".0", NINES + ".", "." + NINES, NINES + NINES.substring(20), "1e" + NINES};
        for (String text : texts) {
            for (int mode = 0; mode <= 4; mode++) {
                DecimalDesk desk = new DecimalDesk();
                desk.mode(mode);
                check.due("read " + text, Check.read(desk, text), Check.ILLEGAL);
                check.due("flags() behind it", desk.flags(), 0);
            }
            DecimalDesk desk = new DecimalDesk();
            Check.read(desk, "1e-99");
            check.due("read " + text, Check.read(desk, text), Check.ILLEGAL);
            check.due("flags() behind it", desk.flags(), 5);
        }
    }

    private static void tapeIsEmptyThen(Check check) {
        DecimalDesk desk = new DecimalDesk();
        check.due("read 12", Check.read(desk, "12"), "1094713344");
        check.due("read() again", Check.read(desk), Check.ILLEGAL);
        check.due("read 1x", Check.read(desk, "1x"), Check.ILLEGAL);
        check.due("read() again", Check.read(desk), Check.ILLEGAL);
        check.due("read 1", Check.read(desk, "1"), "1065353216");
        Check.exact(desk, 0x3FC00000L);
        Check.read(desk, "7");
        check.due("what was told stays", Check.toldBy(desk), "1.5");
    }

    /** The format 4, 3: the greatest one is 240 (119), the next would be 256; the least is 2^-9. */
    private static void edgesOfASmallFormat(Check check) {
        String[][] rows = {
            {"239.9999", "119"}, {"240", "119"}, {"247.9999999999999999999999999999999999999", "119"},
            {"248", "120"}, {"256", "120"}, {"224", "118"}, {"232", "118"}, {"231.9", "118"}, {"232.1", "119"},
            {"0.001953125", "1"}, {"0.0009765625", "0"}, {"0.000976562500000000000000000000000000001", "1"},
            {"0.0029296875", "2"}, {"0.013671875", "7"}, {"0.0146484375", "8"}, {"0.014", "7"}, {"0.015625", "8"},
            {"-0.0146484375", "136"}, {"0.017578125", "9"}, {"0.0166015625", "8"}, {"1.9375", "64"}, {"1.93", "63"}};
        for (String[] row : rows) {
            DecimalDesk desk = new DecimalDesk();
            desk.format(4, 3);
            check.due("read " + row[0], Check.read(desk, row[0]), row[1]);
        }
    }

    private static void overflowByMode(Check check) {
        // By mode: 241, 248, 255, 256, 1e999, and the same below 0.
        String[] texts = {"241", "248", "255", "256", "1e999", "-241", "-248", "-255", "-256", "-1e999"};
        int[][] sizes = {
            {119, 120, 120, 120, 120, 119, 120, 120, 120, 120},
            {119, 119, 119, 119, 119, 119, 119, 119, 119, 119},
            {120, 120, 120, 120, 120, 119, 119, 119, 119, 119},
            {119, 119, 119, 119, 119, 120, 120, 120, 120, 120},
            {119, 120, 120, 120, 120, 119, 120, 120, 120, 120}};
        int[][] flags = {
            {1, 3, 3, 3, 3, 1, 3, 3, 3, 3},
            {1, 1, 1, 3, 3, 1, 1, 1, 3, 3},
            {3, 3, 3, 3, 3, 1, 1, 1, 3, 3},
            {1, 1, 1, 3, 3, 3, 3, 3, 3, 3},
            {1, 3, 3, 3, 3, 1, 3, 3, 3, 3}};
        for (int mode = 0; mode <= 4; mode++) {
            for (int i = 0; i < texts.length; i++) {
                DecimalDesk desk = new DecimalDesk();
                desk.format(4, 3);
                desk.mode(mode);
                int sign = texts[i].charAt(0) == '-' ? 128 : 0;
                String call = "read " + texts[i] + " in mode " + mode;
                check.due(call, Check.read(desk, texts[i]), "" + (sign + sizes[mode][i]));
                check.due("flags() behind " + call, desk.flags(), flags[mode][i]);
            }
        }
    }

    private static void tinyByMode(Check check) {
        String[] texts = {"1e-999", "0.0009765625", "0.001", "-1e-999", "-0.0009765625", "-0.001"};
        int[][] sizes = {
            {0, 0, 1, 0, 0, 1}, {0, 0, 0, 0, 0, 0}, {1, 1, 1, 0, 0, 0}, {0, 0, 0, 1, 1, 1}, {0, 1, 1, 0, 1, 1}};
        for (int mode = 0; mode <= 4; mode++) {
            for (int i = 0; i < texts.length; i++) {
                DecimalDesk desk = new DecimalDesk();
                desk.format(4, 3);
                desk.mode(mode);
                int sign = texts[i].charAt(0) == '-' ? 128 : 0;
                String call = "read " + texts[i] + " in mode " + mode;
                check.due(call, Check.read(desk, texts[i]), "" + (sign + sizes[mode][i]));
                check.due("flags() behind " + call, desk.flags(), 5);
            }
        }
    }

    private static void signOfZero(Check check) {
        for (int mode = 0; mode <= 4; mode++) {
            DecimalDesk desk = new DecimalDesk();
            desk.mode(mode);
            check.due("read 0", Check.read(desk, "0"), "0");
            check.due("read -0", Check.read(desk, "-0"), "2147483648");
            check.due("read -0.00e99", Check.read(desk, "-0.00e99"), "2147483648");
            check.due("read 0e-999", Check.read(desk, "0e-999"), "0");
            check.due("read -0e999", Check.read(desk, "-0e999"), "2147483648");
            check.due("flags() behind zeros", desk.flags(), 0);
        }
    }

    /** Digits and power may each go far, as long as they meet again. */
    private static void farPowers(Check check) {
        DecimalDesk desk = new DecimalDesk();
        String least = "0." + ZEROS.substring(2);
        check.due("read 10^-39e39", Check.read(desk, least + "1e39"), "1065353216");
        check.due("flags()", desk.flags(), 0);
        check.due("read 10^39e-39", Check.read(desk, "1" + ZEROS.substring(1) + "e-39"), "1065353216");
        check.due("flags()", desk.flags(), 0);
        check.due("read 10^-39e77", Check.read(desk, least + "1e77"), "" + Float.floatToIntBits(1e38f));
        check.due("flags()", desk.flags(), 1);
        check.due("read 10^39e-84", Check.read(desk, "1" + ZEROS.substring(1) + "e-84"), "1");
        check.due("flags()", desk.clear(7), 5);
        check.due("read 10^39e-85", Check.read(desk, "1" + ZEROS.substring(1) + "e-85"), "0");
        check.due("read 10^-39e78", Check.read(desk, least + "1e78"), "2139095040");
        check.due("flags()", desk.clear(7), 7);
        check.due("read nines e-999", Check.read(desk, NINES + "e-999"), "0");
        check.due("flags()", desk.clear(7), 5);
        check.due("read nines e999", Check.read(desk, NINES + "e999"), "2139095040");
        check.due("flags()", desk.clear(7), 3);
    }

    /** 40 digits reach just beside the middle between two floats: as due by the model. */
    private static void middlesOfFloats(Check check) {
        Model model = new Model();
        long[] sizes = {0, 1, 0x7FFFFF, 0x800000, 0x3F800000, 0x3F800001, 0x4B000001, 0x7F7FFFFE, 0x7F7FFFFF,
            0x33800000, 0x5F000000, 0x12345678};
        for (long size : sizes) {
            BigDecimal middle = model.value(size).add(model.value(size + 1)).divide(Model.TWO);
            BigDecimal below = middle.round(new java.math.MathContext(40, java.math.RoundingMode.DOWN));
            BigDecimal above = below.add(below.ulp());
            for (BigDecimal value : new BigDecimal[] {below, above, below.subtract(below.ulp())}) {
                for (int mode = 0; mode <= 4; mode++) {
                    String text = value.unscaledValue() + "e" + -value.scale();
                    DecimalDesk desk = new DecimalDesk();
                    desk.mode(mode);
                    model.mode = mode;
                    model.flags = 0;
                    model.tape = text;
                    check.due("read " + text + " in mode " + mode, Check.read(desk, text), "" + model.read());
                    check.due("flags() behind it", desk.flags(), model.flags);
                }
            }
        }
    }
}
