/** Promise 3: every MODE there is, and none besides; what each does with ties and with what is off them. */
public final class ModeTest {
    private static final String[] TEXTS = {
        "1.0625", "1.1875", "1.06", "1.07", "1.125", "-1.0625", "-1.1875", "-1.06", "-1.07", "-1.125"};
    private static final int[][] DUE = {
        {56, 58, 56, 57, 57, 184, 186, 184, 185, 185},
        {56, 57, 56, 56, 57, 184, 185, 184, 184, 185},
        {57, 58, 57, 57, 57, 184, 185, 184, 184, 185},
        {56, 57, 56, 56, 57, 185, 186, 185, 185, 185},
        {57, 58, 56, 57, 57, 185, 186, 184, 185, 185}};

    public static void main(String[] args) {
        Check check = new Check("ModeTest");
        for (int mode = 0; mode <= 4; mode++) {
            DecimalDesk desk = new DecimalDesk();
            desk.format(4, 3);
            check.due("mode(" + mode + ")", desk.mode(mode), true);
            dueInMode(check, desk, mode);
            for (int wrong : new int[] {-1, 5, 6, 100, Integer.MIN_VALUE, Integer.MAX_VALUE}) {
                check.due("mode(" + wrong + ")", desk.mode(wrong), false);
                dueInMode(check, desk, mode);
            }
        }
        allElseStays(check);
        check.end();
    }

    private static void dueInMode(Check check, DecimalDesk desk, int mode) {
        for (int i = 0; i < TEXTS.length; i++) {
            check.due("read " + TEXTS[i] + " in mode " + mode, Check.read(desk, TEXTS[i]), "" + DUE[mode][i]);
        }
    }

    private static void allElseStays(Check check) {
        DecimalDesk desk = new DecimalDesk();
        desk.format(4, 3);
        Check.read(desk, "1.06");
        Check.exact(desk, 57);
        Check.typeAll(desk, "1.06");
        check.due("mode(2)", desk.mode(2), true);
        check.due("flags()", desk.flags(), 1);
        check.due("what was told", Check.toldBy(desk), "1.125");
        check.due("read()", Check.read(desk), "57");
        // The mode at read() counts, and shortest() is by MODE 0 in any mode.
        check.due("shortest(57)", Check.shortest(desk, 57), "1.1e0");
    }
}
