/** Promise 7: the FLAGS that are in mask go, and of these those that there were are the answer. */
public final class ClearTest {
    private static final String[] RAISE = {"1", "0.1", "1e99", "1e-99"};

    public static void main(String[] args) {
        Check check = new Check("ClearTest");
        int[] raised = {0, 1, 3, 7};
        int[] masks = {0, 1, 2, 3, 4, 5, 6, 7, 8, 15, -1, -8, -2, Integer.MIN_VALUE, Integer.MAX_VALUE};
        for (int upTo = 0; upTo < raised.length; upTo++) {
            for (int mask : masks) {
                DecimalDesk desk = new DecimalDesk();
                for (int i = 0; i <= upTo; i++) {
                    Check.read(desk, RAISE[i]);
                }
                check.due("flags()", desk.flags(), raised[upTo]);
                check.due("clear(" + mask + ") of " + raised[upTo], desk.clear(mask), raised[upTo] & mask);
                check.due("flags() behind it", desk.flags(), raised[upTo] & ~mask);
                check.due("clear(" + mask + ") again", desk.clear(mask), 0);
            }
        }
        clearedOnesComeAgain(check);
        check.end();
    }

    private static void clearedOnesComeAgain(Check check) {
        DecimalDesk desk = new DecimalDesk();
        Check.read(desk, "1e-99");
        check.due("clear(1)", desk.clear(1), 1);
        check.due("flags()", desk.flags(), 4);
        Check.read(desk, "0.1");
        check.due("flags()", desk.flags(), 5);
        Check.typeAll(desk, "12");
        Check.exact(desk, 0x3FC00000L);
        desk.clear(-1);
        check.due("what was told stays", Check.toldBy(desk), "1.5");
        check.due("the tape stays", Check.read(desk), "1094713344");
    }
}
