/** Promises 1 to 5, sentence by sentence: what is new, what is taken, and what is refused and changes nothing. */
public final class BoundaryStateTest {
    private static final String ONE = "1065353216";

    public static void main(String[] args) {
        Check check = new Check("BoundaryStateTest");
        newObject(check);
        formatTrue(check);
        formatFalse(check);
        modeTrue(check);
        modeFalse(check);
        typeTrue(check);
        typeHighestFirst(check);
        typeAnotherCount(check);
        typeWrongByte(check);
        typeMoreThan60(check);
        readEmpties(check);
        readOfNothing(check);
        readOfNone(check);
        allCallsOfARun(check);
        check.end();
    }

    private static void newObject(Check check) {
        check.sentence("Promise 1: E is 8, M 23");
        check.due("read 1", Check.read(new DecimalDesk(), "1"), ONE);
        check.due("exact of the least", new DecimalDesk().exact(1), 151);
        check.due("exact of the greatest", Check.exact(new DecimalDesk(), 0x7F7FFFFFL),
                "340282346638528859811704183484516925440");
        check.due("exact of the last PATTERN", Check.exact(new DecimalDesk(), 0xFFFFFFFFL), "nan");
        check.due("exact of one beyond", Check.exact(new DecimalDesk(), 0x100000000L), Check.ILLEGAL);
        check.sentence("Promise 1: the MODE 0");
        check.due("read 16777217", Check.read(new DecimalDesk(), "16777217"), "1266679808");
        check.due("read 16777219", Check.read(new DecimalDesk(), "16777219"), "1266679810");
        check.due("read -16777217", Check.read(new DecimalDesk(), "-16777217"), "3414163456");
        check.due("read -16777219", Check.read(new DecimalDesk(), "-16777219"), "3414163458");
        check.sentence("Promise 1: no FLAGS");
        check.due("flags()", new DecimalDesk().flags(), 0);
        check.due("clear(-1)", new DecimalDesk().clear(-1), 0);
        check.sentence("Promise 1: nothing was told");
        for (int i : new int[] {0, 1, -1, Integer.MIN_VALUE, Integer.MAX_VALUE}) {
            check.due("letter(" + i + ")", Check.letter(new DecimalDesk(), i), Check.NO_SUCH);
        }
        check.sentence("Promise 1: a new object is new whatever was done with others");
        DecimalDesk busy = Check.busyDesk();
        DecimalDesk desk = new DecimalDesk();
        check.due("flags()", desk.flags(), 0);
        check.due("what was told", Check.toldBy(desk), "");
        check.due("read() of its tape", Check.read(desk), Check.ILLEGAL);
        check.due("read 1", Check.read(desk, "1"), ONE);
        check.staysBusy("a new object", busy);
    }

    private static void formatTrue(Check check) {
        check.sentence("Promise 2: the FORMAT: true");
        for (int e = 2; e <= 8; e++) {
            for (int m = 1; m <= 23; m++) {
                DecimalDesk desk = Check.busyDesk();
                String call = "format(" + e + ", " + m + ")";
                check.due(call, desk.format(e, m), true);
                check.due("flags() behind " + call, desk.flags(), 5);
                check.due("what was told behind " + call, Check.toldBy(desk), "-1.125");
                check.due("the tape's 6 letters behind " + call, Check.typeAll(desk, "0".repeat(54)), true);
                check.due("and no room behind it", desk.type('0', 1), false);
                Check.read(desk);
                long one = (1L << e - 1) - 1 << m;
                check.due("read 1 behind " + call, Check.read(desk, "1"), "" + one);
                // MODE 2 stays.
                check.due("read 1.0000000001 behind " + call, Check.read(desk, "1.0000000001"), "" + (one + 1));
                check.due(call + " again", desk.format(e, m), true);
            }
        }
    }

    private static void formatFalse(Check check) {
        check.sentence("Promise 2: false, changing nothing, if there is none such");
        int[] wrongE = {1, 9, 0, -1, 10, 32, 255 + 4, -4, Integer.MIN_VALUE, Integer.MAX_VALUE, Integer.MIN_VALUE + 4};
        int[] wrongM = {0, 24, -1, 25, 64, 256 + 3, -3, Integer.MIN_VALUE, Integer.MAX_VALUE, Integer.MIN_VALUE + 3};
        for (int e : wrongE) {
            for (int m : new int[] {1, 3, 23}) {
                refusedFormat(check, e, m);
            }
        }
        for (int m : wrongM) {
            for (int e : new int[] {2, 4, 8}) {
                refusedFormat(check, e, m);
            }
        }
        refusedFormat(check, 1, 0);
        refusedFormat(check, 9, 24);
        refusedFormat(check, 23, 8);
    }

    private static void refusedFormat(Check check, int e, int m) {
        DecimalDesk desk = Check.busyDesk();
        String call = "format(" + e + ", " + m + ")";
        check.due(call, desk.format(e, m), false);
        check.staysBusy(call, desk);
    }

    private static void modeTrue(Check check) {
        check.sentence("Promise 3: the MODE: true");
        String[] texts = {"1.06", "1.0625", "-1.06", "-1.0625"};
        String[][] due = {{"56", "56", "184", "184"}, {"56", "56", "184", "184"}, {"57", "57", "184", "184"},
            {"56", "56", "185", "185"}, {"56", "57", "184", "185"}};
        for (int mode = 0; mode <= 4; mode++) {
            DecimalDesk desk = Check.busyDesk();
            check.due("mode(" + mode + ")", desk.mode(mode), true);
            check.due("flags() behind it", desk.flags(), 5);
            check.due("what was told behind it", Check.toldBy(desk), "-1.125");
            check.due("read() of the tape behind it", Check.read(desk), due[mode][0]);
            for (int i = 0; i < texts.length; i++) {
                check.due("mode(" + mode + "), read " + texts[i], Check.read(desk, texts[i]), due[mode][i]);
            }
            // 0 and 1 part here alone.
            check.due("mode(" + mode + "), read 1.1875", Check.read(desk, "1.1875"),
                    mode == 1 || mode == 3 ? "57" : "58");
            check.due("mode(" + mode + ") again", desk.mode(mode), true);
        }
    }

    private static void modeFalse(Check check) {
        check.sentence("Promise 3: false, changing nothing, if there is none such");
        int[] wrong = {-1, 5, 6, -2, 8, 16, 256, 256 + 1, Integer.MIN_VALUE, Integer.MIN_VALUE + 1, Integer.MAX_VALUE};
        for (int mode : wrong) {
            DecimalDesk desk = Check.busyDesk();
            check.due("mode(" + mode + ")", desk.mode(mode), false);
            check.staysBusy("mode(" + mode + ")", desk);
        }
    }

    private static void typeTrue(Check check) {
        check.sentence("Promise 4: the n (1 .. 8) lowest bytes of word go to the tape: true");
        String all = "12345678";
        for (int n = 1; n <= 8; n++) {
            DecimalDesk desk = new DecimalDesk();
            String lowest = all.substring(8 - n);
            check.due("type(.., " + n + ")", desk.type(Check.word(all), n), true);
            check.due("read() " + lowest, Check.read(desk),
                    "" + Float.floatToIntBits(Float.parseFloat(lowest)));
            // Those above them may be anything.
            for (long above : new long[] {0, 0xFFFFFFFFFFFFFFFFL, 0x2020202020202020L, 0x7F7F7F7F7F7F7F7FL}) {
                long mask = n == 8 ? -1 : (1L << 8 * n) - 1;
                long word = Check.word(all) & mask | above & ~mask;
                check.due("type(" + Long.toHexString(word) + ", " + n + ")", desk.type(word, n), true);
                check.due("read() " + lowest, Check.read(desk), "" + Float.floatToIntBits(Float.parseFloat(lowest)));
            }
        }
        DecimalDesk desk = Check.busyDesk();
        check.due("type 1", desk.type('1', 1), true);
        check.due("flags() behind it", desk.flags(), 5);
        check.due("what was told behind it", Check.toldBy(desk), "-1.125");
        check.due("read() 106e-21, which goes up to the least number", Check.read(desk), "1");
    }

    private static void typeHighestFirst(Check check) {
        check.sentence("Promise 4: the highest first");
        DecimalDesk desk = new DecimalDesk();
        desk.type('1' << 8 | '2', 2);
        check.due("read() 12", Check.read(desk), "" + Float.floatToIntBits(12));
        desk.type(Check.word("-1234.5e"), 8);
        desk.type(Check.word("-1"), 2);
        check.due("read() -1234.5e-1", Check.read(desk), "" + (Float.floatToIntBits(-123.45f) & 0xFFFFFFFFL));
        for (char letter : "-1.5e+1".toCharArray()) {
            desk.type(letter, 1);
        }
        check.due("read() -1.5e+1, typed one by one", Check.read(desk), "" + (Float.floatToIntBits(-15) & 0xFFFFFFFFL));
    }

    private static void typeAnotherCount(Check check) {
        check.sentence("Promise 4: false, changing nothing, for another n");
        for (int n : new int[] {0, 9, -1, 10, -8, 16, 64, 256 + 1, Integer.MIN_VALUE, Integer.MIN_VALUE + 1,
            Integer.MAX_VALUE}) {
            DecimalDesk desk = Check.busyDesk();
            check.due("type(11111111, " + n + ")", desk.type(Check.word("11111111"), n), false);
            check.staysBusy("type(.., " + n + ")", desk);
            check.due("type(.., " + n + ") on an empty tape", desk.type(Check.word("11111111"), n), false);
            check.due("read() of it", Check.read(desk), Check.ILLEGAL);
        }
    }

    private static void typeWrongByte(Check check) {
        check.sentence("Promise 4: false, changing nothing, for a byte that is not 33 .. 126");
        for (int value = 0; value < 256; value++) {
            boolean good = value >= 33 && value <= 126;
            for (int place = 0; place < 8; place++) {
                DecimalDesk desk = Check.busyDesk();
                long word = Check.word("11111111") & ~(255L << 8 * place) | (long) value << 8 * place;
                check.due("type(" + Long.toHexString(word) + ", 8)", desk.type(word, 8), good);
                if (!good) {
                    check.staysBusy("a byte " + value + " at " + place, desk);
                }
            }
        }
        for (int value : new int[] {33, 126}) {
            DecimalDesk desk = new DecimalDesk();
            check.due("type " + value, desk.type(value, 1), true);
            check.due("read() of " + value, Check.read(desk), Check.ILLEGAL);
        }
    }

    private static void typeMoreThan60(Check check) {
        check.sentence("Promise 4: false, changing nothing, if the tape would have more than 60");
        for (int n = 1; n <= 8; n++) {
            for (int length = 60 - 8; length <= 60; length++) {
                DecimalDesk desk = new DecimalDesk();
                Check.typeAll(desk, "0".repeat(length));
                boolean fits = length + n <= 60;
                check.due("type " + n + " behind " + length, desk.type(Check.word("00000000"), n), fits);
                int left = 60 - length - (fits ? n : 0);
                check.due("what is left then", Check.typeAll(desk, "0".repeat(left)), true);
                check.due("and one more", desk.type('0', 1), false);
            }
        }
        // 47 letters are the longest DECIMAL: there is always room for one.
        String longest = "-" + "0".repeat(38) + "1.5e-001";
        check.due("read the longest", Check.read(new DecimalDesk(), longest),
                "" + (Float.floatToIntBits(-0.15f) & 0xFFFFFFFFL));
        DecimalDesk desk = Check.busyDesk();
        Check.typeAll(desk, "0".repeat(54));
        check.due("type behind 60", desk.type(Check.word("00000000"), 8), false);
        check.due("flags() behind it", desk.flags(), 5);
        check.due("what was told behind it", Check.toldBy(desk), "-1.125");
        check.due("read() of 60", Check.read(desk), Check.ILLEGAL);
        check.due("read 1.06 then, in the old MODE", Check.read(desk, "1.06"), "57");
    }

    /** Whether there is room for just 60. */
    private static void isEmpty(Check check, String call, DecimalDesk desk) {
        check.due("60 letters behind " + call, Check.typeAll(desk, "1".repeat(60)), true);
        check.due("one more behind " + call, desk.type('1', 1), false);
        Check.read(desk);
    }

    private static void readEmpties(Check check) {
        check.sentence("Promise 5: the tape is empty then in any case");
        String[] texts = {"", "0", "-0", "1", "1.5", "0.1", "1e999", "-1e-999", "x", "1x", "1.", "-", "1e",
            "1".repeat(41), "1".repeat(60)};
        for (String text : texts) {
            DecimalDesk desk = new DecimalDesk();
            Check.read(desk, text);
            check.due("read() again behind " + text, Check.read(desk), Check.ILLEGAL);
            check.due("read 1 behind " + text, Check.read(desk, "1"), ONE);
            isEmpty(check, "read()", desk);
            check.due("read 1 then", Check.read(desk, "1"), ONE);
        }
    }

    private static void readOfNothing(Check check) {
        check.sentence("Promise 5: a tape with nothing on it is no DECIMAL");
        check.due("read() of a new object", Check.read(new DecimalDesk()), Check.ILLEGAL);
        DecimalDesk desk = new DecimalDesk();
        desk.type(0, 1);
        check.due("read() behind a refused type", Check.read(desk), Check.ILLEGAL);
        check.due("read() again", Check.read(desk), Check.ILLEGAL);
        isEmpty(check, "read() of nothing", desk);
    }

    private static void readOfNone(Check check) {
        check.sentence("Promise 5: IllegalArgumentException: it is none (FLAGS stay)");
        String[] texts = {"", "x", "-", "1.", ".1", "1e", "1e1234", "1e999x", "1e-999x", "0.1x",
            "1".repeat(41), "1".repeat(60)};
        for (String text : texts) {
            for (int flags = 0; flags < 8; flags++) {
                DecimalDesk desk = Check.busyDesk();
                Check.read(desk);
                Check.read(desk, "1e999");
                desk.clear(7 - flags);
                check.due("read " + text, Check.read(desk, text), Check.ILLEGAL);
                check.due("flags() behind " + text, desk.flags(), flags);
                check.due("what was told behind " + text, Check.toldBy(desk), "-1.125");
                check.due("read 1.06 behind " + text, Check.read(desk, "1.06"), "57");
            }
        }
    }

    private static void allCallsOfARun(Check check) {
        check.sentence("An object is used for at most 512 calls: all of them answer");
        DecimalDesk desk = new DecimalDesk();
        for (int call = 1; call <= 512; call += 4) {
            check.due("type, call " + call, desk.type(Check.word("1.5"), 3), true);
            check.due("read(), call " + (call + 1), Check.read(desk), "1069547520");
            check.due("exact, call " + (call + 2), desk.exact(0x80000001L), 152);
            check.due("letter, call " + (call + 3), Check.letter(desk, 151), "" + (int) '5');
        }
    }
}
