/** Promise 4: the n lowest bytes of word, the highest first, go to the tape, which holds 60. */
public final class TypeTest {
    public static void main(String[] args) {
        Check check = new Check("TypeTest");
        order(check);
        wrongCounts(check);
        everyByte(check);
        room(check);
        check.end();
    }

    private static void order(Check check) {
        DecimalDesk desk = new DecimalDesk();
        check.due("type 12", desk.type(Check.word("12"), 2), true);
        check.due("type 3", desk.type(Check.word("3"), 1), true);
        check.due("read()", Check.read(desk), "" + Float.floatToIntBits(123));
        for (int n = 1; n <= 8; n++) {
            String text = "87654321".substring(8 - n);
            check.due("type the lowest " + n, desk.type(Check.word("87654321"), n), true);
            check.due("read() " + text, Check.read(desk), "" + Float.floatToIntBits(Float.parseFloat(text)));
        }
        // What stands above the n lowest bytes is not looked at.
        check.due("type(.., 1)", desk.type(0xFFFFFF0000000000L | '7', 1), true);
        check.due("type(.., 2)", desk.type(0x8000000000000000L | '.' << 8 | '5', 2), true);
        check.due("read() 7.5", Check.read(desk), "" + Float.floatToIntBits(7.5f));
    }

    private static void wrongCounts(Check check) {
        for (int n : new int[] {0, -1, 9, 10, 64, Integer.MIN_VALUE, Integer.MAX_VALUE}) {
            DecimalDesk desk = new DecimalDesk();
            Check.typeAll(desk, "2");
            check.due("type(.., " + n + ")", desk.type(Check.word("11111111"), n), false);
            check.due("read() behind it", Check.read(desk), "" + Float.floatToIntBits(2));
        }
    }

    /** A bad byte at any place refuses the whole word; the tape stays as it was. */
    private static void everyByte(Check check) {
        for (int value = 0; value < 256; value++) {
            boolean good = value >= 33 && value <= 126;
            for (int n = 1; n <= 8; n++) {
                for (int place = 0; place < n; place++) {
                    DecimalDesk desk = new DecimalDesk();
                    Check.typeAll(desk, "4");
                    long word = Check.word("11111111") & ~(255L << 8 * place) | (long) value << 8 * place;
                    String call = "type(" + Long.toHexString(word) + ", " + n + ")";
                    check.due(call, desk.type(word, n), good);
                    if (!good) {
                        check.due("read() behind " + call, Check.read(desk), "" + Float.floatToIntBits(4));
                    }
                }
            }
        }
        // Good bytes that no DECIMAL has are taken all the same.
        DecimalDesk desk = new DecimalDesk();
        check.due("type !~", desk.type(Check.word("!~"), 2), true);
        check.due("read() !~", Check.read(desk), Check.ILLEGAL);
    }

    private static void room(Check check) {
        DecimalDesk desk = new DecimalDesk();
        for (int i = 0; i < 7; i++) {
            check.due("type 8 bytes", desk.type(Check.word("00000000"), 8), true);
        }
        for (int n = 5; n <= 8; n++) {
            check.due("type beyond 60", desk.type(Check.word("00000000"), n), false);
        }
        check.due("type up to 60", desk.type(Check.word("0000"), 4), true);
        check.due("type one more", desk.type('0', 1), false);
        check.due("read() 60 zeros", Check.read(desk), Check.ILLEGAL);
        check.due("type when it is empty again", desk.type('1', 1), true);
        check.due("read()", Check.read(desk), "1065353216");
        // What was refused for want of room was not taken in part.
        Check.typeAll(desk, "-0.00000000000000000000000000000000000015e+002");
        check.due("type behind 46", desk.type(Check.word("88888888"), 8), true);
        check.due("type behind 54", desk.type(Check.word("88888888"), 8), false);
        check.due("type behind 54", desk.type(Check.word("888888"), 6), true);
        check.due("type behind 60", desk.type(Check.word("8"), 1), false);
        check.due("read()", Check.read(desk), Check.ILLEGAL);
    }
}
