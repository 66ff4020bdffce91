/** Promise 1: E is 8, M 23, the MODE 0; no FLAGS; nothing was told; and nothing is on the tape. */
public final class NewObjectTest {
    public static void main(String[] args) {
        Check check = new Check("NewObjectTest");
        check.due("flags()", new DecimalDesk().flags(), 0);
        check.due("clear(-1)", new DecimalDesk().clear(-1), 0);
        check.due("letter(0)", Check.letter(new DecimalDesk(), 0), Check.NO_SUCH);
        check.due("read() of an empty tape", Check.read(new DecimalDesk()), Check.ILLEGAL);
        check.due("read 1", Check.read(new DecimalDesk(), "1"), "1065353216");
        check.due("read -1", Check.read(new DecimalDesk(), "-1"), "3212836864");
        // A tie to the even one below, and one to the even one above: only MODE 0 does both.
        check.due("read 16777217", Check.read(new DecimalDesk(), "16777217"), "1266679808");
        check.due("read 16777219", Check.read(new DecimalDesk(), "16777219"), "1266679810");
        check.due("next of the last pattern but one", new DecimalDesk().next(0xFF7FFFFFL, false), 0xFF800000L);
        check.due("exact of the last pattern", Check.exact(new DecimalDesk(), 0xFFFFFFFFL), "nan");
        check.due("exact beyond it", Check.exact(new DecimalDesk(), 0x100000000L), Check.ILLEGAL);
        twoObjectsAreApart(check);
        check.end();
    }

    private static void twoObjectsAreApart(Check check) {
        DecimalDesk one = new DecimalDesk();
        one.format(4, 3);
        one.mode(2);
        Check.read(one, "0.1");
        Check.exact(one, 1);
        Check.typeAll(one, "12");
        DecimalDesk other = new DecimalDesk();
        check.due("flags() of another", other.flags(), 0);
        check.due("letter(0) of another", Check.letter(other, 0), Check.NO_SUCH);
        check.due("read() of another", Check.read(other), Check.ILLEGAL);
        check.due("read 0.1 by another", Check.read(other, "0.1"), "1036831949");
    }
}
