/** What README.md says of the calls: its example, row by row, the texts that it names, and one refusal of each. */
public final class ReadmeTest {
    public static void main(String[] args) {
        Check check = new Check("ReadmeTest");
        example(check);
        told(check);
        decimals(check);
        refusals(check);
        check.end();
    }

    private static void example(Check check) {
        DecimalDesk desk = new DecimalDesk();
        check.due("format(4, 3)", desk.format(4, 3), true);
        check.due("mode(2)", desk.mode(2), true);
        check.due("type(0x302E31L, 3)", desk.type(0x302E31L, 3), true);
        long pattern = desk.read();
        check.due("read()", pattern, 29L);
        check.due("flags()", desk.flags(), 1);
        check.due("clear(7)", desk.clear(7), 1);
        check.due("exact(29)", desk.exact(pattern), 9);
        check.due("letter(0)", desk.letter(0), 48);
        check.due("what exact(29) told", Check.toldBy(desk), "0.1015625");
        check.due("shortest(29)", desk.shortest(pattern), 4);
        check.due("what shortest(29) told", Check.toldBy(desk), "1e-1");
        check.due("next(29, true)", desk.next(pattern, true), 30L);
    }

    private static void told(Check check) {
        DecimalDesk desk = new DecimalDesk();
        check.due("shortest", Check.shortest(desk, Long.parseLong(Check.read(desk, "-1.5e-3"))), "-1.5e-3");
        check.due("exact", Check.exact(desk, Long.parseLong(Check.read(desk, "-0.001953125"))), "-0.001953125");
    }

    private static void decimals(Check check) {
        for (String text : new String[] {"7", "-0.25", "12.5e+3"}) {
            check.due("read " + text, Check.read(new DecimalDesk(), text).equals(Check.ILLEGAL), false);
        }
        for (String text : new String[] {".5", "5.", "+5", "1E3"}) {
            check.due("read " + text, Check.read(new DecimalDesk(), text), Check.ILLEGAL);
        }
    }

    private static void refusals(Check check) {
        DecimalDesk desk = Check.busyDesk();
        check.due("format(9, 3)", desk.format(9, 3), false);
        check.due("mode(5)", desk.mode(5), false);
        check.due("type(0x30L, 9)", desk.type(0x30L, 9), false);
        check.due("shortest(256)", Check.shortest(desk, 256), Check.ILLEGAL);
        check.due("exact(256)", Check.exact(desk, 256), Check.ILLEGAL);
        check.due("letter(6)", Check.letter(desk, 6), Check.NO_SUCH);
        check.due("next(256, true)", desk.next(256, true), (long) DecimalDesk.NONE);
        check.staysBusy("all that is refused", desk);
        check.due("read() of an empty tape", Check.read(desk), Check.ILLEGAL);
        check.due("flags() behind it", desk.flags(), 5);
    }
}
