/** Promise 10: letter i of what was told last, from 0 on. */
public final class LetterTest {
    public static void main(String[] args) {
        Check check = new Check("LetterTest");
        DecimalDesk desk = new DecimalDesk();
        noneAt(check, desk, new int[] {0, 1, -1, Integer.MIN_VALUE, Integer.MAX_VALUE});
        check.due("shortest", desk.shortest(0xBDCCCCCDL), 5);
        lettersAre(check, desk, "-1e-1");
        check.due("exact, which is longer", desk.exact(0xC2C90000L), 6);
        lettersAre(check, desk, "-100.5");
        check.due("exact, which is shorter", desk.exact(0x40000000L), 1);
        lettersAre(check, desk, "2");
        check.due("shortest of infinity", desk.shortest(0xFF800000L), 4);
        lettersAre(check, desk, "-inf");
        check.due("exact of no number", desk.exact(0x7F800001L), 3);
        lettersAre(check, desk, "nan");
        check.due("shortest of no pattern", Check.shortest(desk, -1), Check.ILLEGAL);
        lettersAre(check, desk, "nan");
        check.due("exact of the longest", desk.exact(0x807FFFFFL), 152);
        noneAt(check, desk, new int[] {-1, 152, 153, 159, 160, 161, Integer.MIN_VALUE, Integer.MAX_VALUE});
        check.due("letter(151)", Check.letter(desk, 151), "" + (int) '5');
        othersTellNothing(check, desk);
        check.end();
    }

    private static void lettersAre(Check check, DecimalDesk desk, String text) {
        for (int i = 0; i < text.length(); i++) {
            check.due("letter(" + i + ") of " + text, Check.letter(desk, i), "" + (int) text.charAt(i));
        }
        noneAt(check, desk, new int[] {-1, text.length(), text.length() + 1, Integer.MIN_VALUE, Integer.MAX_VALUE});
    }

    private static void noneAt(Check check, DecimalDesk desk, int[] places) {
        for (int i : places) {
            check.due("letter(" + i + ")", Check.letter(desk, i), Check.NO_SUCH);
        }
    }

    private static void othersTellNothing(Check check, DecimalDesk desk) {
        desk.exact(0x3FC00000L);
        desk.format(4, 3);
        desk.mode(4);
        Check.read(desk, "1e-99");
        Check.read(desk, "x");
        desk.flags();
        desk.clear(7);
        desk.next(3, true);
        Check.typeAll(desk, "123");
        lettersAre(check, desk, "1.5");
    }
}
