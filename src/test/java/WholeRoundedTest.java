import java.util.ArrayList;
import java.util.List;

/**
 * ROUNDED, OVERFLOW and FLAGS word by word: every number of a small FORMAT stands in a list, on both
 * sides of 0, and the one that the Term asks for is sought among all of them, without java.math.
 */
public final class WholeRoundedTest {
    // Every number of these FORMATs, and every middle of two, is a whole count of these parts.
    private static final int PLACES = 12;
    private static final long ONE = 1000000000000L;
    private final Check check;
    private final int e;
    private final int m;
    private final int bias;
    private final int finite;
    private final long[] sizes;

    private WholeRoundedTest(Check check, int e, int m) {
        this.check = check;
        this.e = e;
        this.m = m;
        bias = (1 << e - 1) - 1;
        finite = (1 << e) - 1 << m;
        // Three more e than there are: as if e could be as great as one likes.
        sizes = new long[finite + (3 << m)];
        for (int i = 0; i < sizes.length; i++) {
            sizes[i] = parts(i >> m, i & (1 << m) - 1);
        }
    }

    public static void main(String[] args) {
        Check check = new Check("WholeRoundedTest");
        for (int e = 2; e <= 4; e++) {
            for (int m = 1; m <= 3; m++) {
                new WholeRoundedTest(check, e, m).askAll();
            }
        }
        check.end();
    }

    private long parts(int eBits, int mBits) {
        return eBits == 0 ? timesPowerOfTwo(mBits, 1 - bias - m)
                : timesPowerOfTwo((1 << m) + mBits, eBits - bias - m);
    }

    private static long timesPowerOfTwo(long factor, int power) {
        long parts = factor * ONE;
        for (int i = 0; i < power; i++) {
            parts = parts * 2;
        }
        for (int i = 0; i > power; i--) {
            if (parts % 2 != 0) {
                throw new IllegalStateException("the parts are too great");
            }
            parts = parts / 2;
        }
        return parts;
    }

    private void askAll() {
        for (long size : asked()) {
            for (int mode = 0; mode <= 4; mode++) {
                ask(size, false, mode);
                ask(size, true, mode);
            }
        }
    }

    /** All numbers and all middles of two, and one part beside each; and all decimals of two digits. */
    private List<Long> asked() {
        List<Long> asked = new ArrayList<>();
        // What is beyond the last number of the list would find no neighbour above it.
        for (int i = 0; i < sizes.length - 1; i++) {
            long middle = (sizes[i] + sizes[i + 1]) / 2;
            for (long beside = -1; beside <= 1; beside++) {
                if (sizes[i] + beside >= 0) {
                    asked.add(sizes[i] + beside);
                }
                asked.add(middle + beside);
            }
        }
        for (long digits = 1; digits <= 99; digits++) {
            for (long unit = ONE / 100000; digits * unit < sizes[sizes.length - 1]; unit = unit * 10) {
                asked.add(digits * unit);
            }
        }
        return asked;
    }

    private void ask(long size, boolean negative, int mode) {
        DecimalDesk desk = Check.desk(e, m);
        desk.mode(mode);
        String text = (negative ? "-" : "") + size + "e-" + PLACES;
        String call = "format(" + e + ", " + m + "), mode(" + mode + "), read " + text;
        long value = negative ? -size : size;
        int at = rounded(value, mode);
        boolean overflow = Math.abs(at) >= finite;
        int became = overflow ? byOverflow(negative, mode) : Math.abs(at);
        boolean inexact = overflow || number(at) != value;
        boolean underflow = inexact && size < timesPowerOfTwo(1, 1 - bias);
        long pattern = (negative ? 1L << e + m : 0) + became;
        check.due(call, Check.read(desk, text), "" + pattern);
        check.due("flags() behind " + call, desk.flags(),
                (inexact ? 1 : 0) + (overflow ? 2 : 0) + (underflow ? 4 : 0));
    }

    private int byOverflow(boolean negative, int mode) {
        switch (mode) {
            case 1: return finite - 1;
            case 2: return negative ? finite - 1 : finite;
            case 3: return negative ? finite : finite - 1;
            default: return finite;
        }
    }

    /** The number at a place of the list; those below 0 stand at places below 0. */
    private long number(int at) {
        return at < 0 ? -sizes[-at] : sizes[at];
    }

    private int rounded(long value, int mode) {
        int best = sizes.length;
        for (int at = 1 - sizes.length; at < sizes.length; at++) {
            if (mayBe(number(at), value, mode) && (best == sizes.length || isBetter(at, best, value, mode))) {
                best = at;
            }
        }
        return best;
    }

    private static boolean mayBe(long number, long value, int mode) {
        switch (mode) {
            case 1: return Math.abs(number) <= Math.abs(value);
            case 2: return number >= value;
            case 3: return number <= value;
            default: return true;
        }
    }

    private boolean isBetter(int at, int than, long value, int mode) {
        long distance = Math.abs(number(at) - value);
        long other = Math.abs(number(than) - value);
        switch (mode) {
            case 0: return distance < other || distance == other && at % 2 == 0;
            case 2: return number(at) < number(than);
            case 3: return number(at) > number(than);
            case 4: return distance < other || distance == other && Math.abs(at) > Math.abs(than);
            default: return distance < other;
        }
    }
}
