import java.util.NoSuchElementException;

/**
 * Decimals into numbers of small formats and back. All rows are made in the constructors and used
 * again by every call, so that a call makes no object but the exception that it throws.
 */
public final class DecimalDesk {
    public static final int NONE = -1;

    private static final int INEXACT = 1;
    private static final int OVERFLOW = 2;
    private static final int UNDERFLOW = 4;

    private static final int TO_EVEN = 0;
    private static final int TO_ZERO = 1;
    private static final int UPWARD = 2;
    private static final int DOWNWARD = 3;
    private static final int TO_FAR = 4;

    private final Layout layout;
    private final Tape tape;
    private final Decimal decimal;
    private final Rounder rounder;
    private final ShortestFinder finder;
    private final Natural digits;
    private final Told told;
    private int mode;
    private int flags;

    public DecimalDesk() {
        layout = new Layout();
        tape = new Tape();
        decimal = new Decimal();
        rounder = new Rounder();
        finder = new ShortestFinder();
        digits = new Natural();
        told = new Told();
        mode = TO_EVEN;
        flags = 0;
    }

    public boolean format(int e, int m) {
        if (e < 2 || e > 8 || m < 1 || m > 23) {
            return false;
        }
        layout.expBits = e;
        layout.fracBits = m;
        return true;
    }

    public boolean mode(int m) {
        if (m < TO_EVEN || m > TO_FAR) {
            return false;
        }
        mode = m;
        return true;
    }

    public boolean type(long word, int n) {
        return tape.put(word, n);
    }

    public long read() throws IllegalArgumentException {
        boolean isDecimal = decimal.parse(tape);
        tape.wipe();
        if (!isDecimal) {
            throw new IllegalArgumentException("the tape is no decimal");
        }
        rounder.round(decimal, layout, mode);
        long size = rounder.size;
        boolean over = size >= layout.infinity();
        if (over) {
            size = sizeByOverflow(decimal.negative);
        }
        raiseFlags(over);
        return decimal.negative ? layout.signBit() + size : size;
    }

    public int flags() {
        return flags;
    }

    public int clear(int mask) {
        int gone = flags & mask;
        flags = flags & ~mask;
        return gone;
    }

    public int shortest(long pattern) throws IllegalArgumentException {
        if (!layout.holds(pattern)) {
            throw new IllegalArgumentException("no such pattern");
        }
        if (!tellNotFinite(pattern)) {
            tellShortest(pattern);
        }
        return told.length;
    }

    public int exact(long pattern) throws IllegalArgumentException {
        if (!layout.holds(pattern)) {
            throw new IllegalArgumentException("no such pattern");
        }
        if (!tellNotFinite(pattern)) {
            tellAllDigits(pattern);
        }
        return told.length;
    }

    public int letter(int i) throws NoSuchElementException {
        if (i < 0 || i >= told.length) {
            throw new NoSuchElementException("no such letter");
        }
        return told.at(i);
    }

    public long next(long pattern, boolean up) {
        if (!layout.holds(pattern) || layout.sizeOf(pattern) >= layout.infinity()) {
            return NONE;
        }
        if (layout.sizeOf(pattern) == 0) {
            return up ? 1 : layout.signBit() + 1;
        }
        // Sizes are in the order of their patterns, so a step by value is a step by one.
        boolean grows = up != layout.isNegative(pattern);
        return grows ? pattern + 1 : pattern - 1;
    }

    private long sizeByOverflow(boolean negative) {
        boolean staysFinite = mode == TO_ZERO
                || (mode == UPWARD && negative)
                || (mode == DOWNWARD && !negative);
        return staysFinite ? layout.infinity() - 1 : layout.infinity();
    }

    private void raiseFlags(boolean over) {
        if (over) {
            flags = flags | INEXACT | OVERFLOW;
        }
        if (rounder.inexact) {
            flags = flags | INEXACT;
            if (rounder.tiny) {
                flags = flags | UNDERFLOW;
            }
        }
    }

    private boolean tellNotFinite(long pattern) {
        long size = layout.sizeOf(pattern);
        if (size < layout.infinity()) {
            return false;
        }
        told.start(size == layout.infinity() && layout.isNegative(pattern));
        if (size == layout.infinity()) {
            told.add('i');
            told.add('n');
            told.add('f');
        } else {
            told.add('n');
            told.add('a');
            told.add('n');
        }
        return true;
    }

    private void tellShortest(long pattern) {
        told.start(layout.isNegative(pattern));
        long size = layout.sizeOf(pattern);
        if (size == 0) {
            told.add('0');
            told.addPower(0);
            return;
        }
        finder.find(size, layout);
        told.addDigits(finder.digits, finder.count, 1);
        told.addPower(finder.power);
    }

    private void tellAllDigits(long pattern) {
        told.start(layout.isNegative(pattern));
        long size = layout.sizeOf(pattern);
        long rest = layout.significandOf(size);
        int power = layout.powerOf(size);
        // Without factors of 2 left, the last digit behind the point is never 0.
        while (power < 0 && (rest & 1) == 0) {
            rest = rest >> 1;
            power++;
        }
        digits.set(rest);
        if (power >= 0) {
            digits.shiftLeft(power);
            told.addNatural(digits, 0);
        } else {
            digits.timesPowerOfFive(-power);
            told.addNatural(digits, -power);
        }
    }

    /** Where sign, e and m lie in a pattern; a pattern's size is the pattern without its sign. */
    private static final class Layout {
        private int expBits;
        private int fracBits;

        Layout() {
            expBits = 8;
            fracBits = 23;
        }

        int bias() {
            return (1 << (expBits - 1)) - 1;
        }

        /** The power of 2 that the last bit of m counts where e is 0 or 1. */
        int lowestPower() {
            return 1 - bias() - fracBits;
        }

        long signBit() {
            return 1L << (expBits + fracBits);
        }

        long infinity() {
            return ((1L << expBits) - 1) << fracBits;
        }

        boolean holds(long pattern) {
            return pattern >= 0 && pattern < 2 * signBit();
        }

        boolean isNegative(long pattern) {
            return pattern >= signBit();
        }

        long sizeOf(long pattern) {
            return pattern & (signBit() - 1);
        }

        long fractionOf(long size) {
            return size & ((1L << fracBits) - 1);
        }

        int exponentOf(long size) {
            return (int) (size >> fracBits);
        }

        long significandOf(long size) {
            return exponentOf(size) == 0 ? size : (1L << fracBits) + fractionOf(size);
        }

        int powerOf(long size) {
            return lowestPower() + Math.max(exponentOf(size) - 1, 0);
        }
    }

    private static final class Tape {
        private static final int ROOM = 60;
        private static final int END = -1;
        private final byte[] bytes;
        private int length;

        Tape() {
            bytes = new byte[ROOM];
            length = 0;
        }

        boolean put(long word, int n) {
            if (n < 1 || n > 8 || length + n > ROOM) {
                return false;
            }
            for (int i = 0; i < n; i++) {
                int letter = byteOf(word, i);
                if (letter < 33 || letter > 126) {
                    return false;
                }
            }
            for (int i = n - 1; i >= 0; i--) {
                if (length >= 0 && length < ROOM) {
                    bytes[length] = (byte) byteOf(word, i);
                    length++;
                }
            }
            return true;
        }

        void wipe() {
            length = 0;
        }

        int at(int i) {
            return i >= 0 && i < length && i < ROOM ? bytes[i] : END;
        }

        private static int byteOf(long word, int i) {
            return (int) (word >>> (8 * i)) & 255;
        }
    }

    /** What a tape says: digits * 10^exponent, behind a sign. */
    private static final class Decimal {
        private static final int NOWHERE = -1;
        private static final int MOST_DIGITS = 40;
        private static final int MOST_POWER_DIGITS = 3;
        private final Natural digits;
        private boolean negative;
        private int exponent;

        Decimal() {
            digits = new Natural();
            negative = false;
            exponent = 0;
        }

        boolean parse(Tape tape) {
            digits.set(0);
            exponent = 0;
            negative = tape.at(0) == '-';
            int behind = takeDigits(tape, negative ? 1 : 0);
            return behind != NOWHERE && takePower(tape, behind);
        }

        /** Where the digits end, or NOWHERE if there are none as a decimal has them. */
        private int takeDigits(Tape tape, int from) {
            int count = 0;
            int ahead = NOWHERE;
            int at = from;
            for (; at < Tape.ROOM; at++) {
                int letter = tape.at(at);
                if (isDigit(letter)) {
                    digits.timesPlus(10, letter - '0');
                    count++;
                } else if (letter == '.' && ahead == NOWHERE && count > 0) {
                    ahead = count;
                } else {
                    break;
                }
            }
            if (count == 0 || count > MOST_DIGITS || ahead == count) {
                return NOWHERE;
            }
            exponent = ahead == NOWHERE ? 0 : ahead - count;
            return at;
        }

        private boolean takePower(Tape tape, int from) {
            if (tape.at(from) == Tape.END) {
                return true;
            }
            if (tape.at(from) != 'e') {
                return false;
            }
            int at = from + 1;
            boolean below = tape.at(at) == '-';
            if (below || tape.at(at) == '+') {
                at++;
            }
            int power = 0;
            int count = 0;
            while (count < MOST_POWER_DIGITS && isDigit(tape.at(at))) {
                power = power * 10 + tape.at(at) - '0';
                at++;
                count++;
            }
            exponent = below ? exponent - power : exponent + power;
            return count > 0 && tape.at(at) == Tape.END;
        }

        private static boolean isDigit(int letter) {
            return letter >= '0' && letter <= '9';
        }
    }

    /** Rounds a decimal as if e could be as great as one likes. */
    private static final class Rounder {
        // Beyond these powers of 10, 1 to 40 digits are above every finite number, or nearer to 0
        // than a half of the least one, whatever the power: so the powers may be cut off there.
        private static final int GREATEST_POWER = 40;
        private static final int LEAST_POWER = -90;
        private final Natural top;
        private final Natural bottom;
        private long size;
        private boolean inexact;
        private boolean tiny;

        Rounder() {
            top = new Natural();
            bottom = new Natural();
            size = 0;
            inexact = false;
            tiny = false;
        }

        void round(Decimal decimal, Layout layout, int mode) {
            size = 0;
            inexact = false;
            tiny = false;
            if (decimal.digits.isZero()) {
                return;
            }
            setFraction(decimal);
            int exponent = normalise();
            int lowest = layout.lowestPower();
            int power = Math.max(exponent - layout.fracBits, lowest);
            int bits = exponent - power + 1;
            long significand = takeBits(bits);
            int againstHalf = bits < 0 ? -1 : top.against(bottom);
            inexact = !top.isZero();
            tiny = exponent < 1 - layout.bias();
            boolean odd = (significand & 1) == 1;
            if (inexact && goesFarther(mode, decimal.negative, odd, againstHalf)) {
                significand++;
            }
            // The highest bit of a full significand counts one up in e, and so does a carry.
            size = ((long) (power - lowest) << layout.fracBits) + significand;
        }

        private void setFraction(Decimal decimal) {
            int power = Math.min(Math.max(decimal.exponent, LEAST_POWER), GREATEST_POWER);
            top.copy(decimal.digits);
            bottom.set(1);
            if (power >= 0) {
                top.timesPowerOfTen(power);
            } else {
                bottom.timesPowerOfTen(-power);
            }
        }

        /** Leaves 1 <= top / bottom < 2, and answers the power of 2 that was taken away. */
        private int normalise() {
            int exponent = top.bitLength() - bottom.bitLength();
            if (exponent >= 0) {
                bottom.shiftLeft(exponent);
            } else {
                top.shiftLeft(-exponent);
            }
            if (top.against(bottom) < 0) {
                top.timesPlus(2, 0);
                exponent--;
            }
            return exponent;
        }

        /** The first bits of top / bottom; what is left is top / (2 * bottom) of the last one. */
        private long takeBits(int count) {
            long taken = 0;
            for (int i = 0; i < count; i++) {
                taken = taken << 1;
                if (top.against(bottom) >= 0) {
                    top.subtract(bottom);
                    taken++;
                }
                top.timesPlus(2, 0);
            }
            return taken;
        }

        private static boolean goesFarther(int mode, boolean negative, boolean odd, int againstHalf) {
            switch (mode) {
                case TO_ZERO:
                    return false;
                case UPWARD:
                    return !negative;
                case DOWNWARD:
                    return negative;
                case TO_FAR:
                    return againstHalf >= 0;
                default:
                    return againstHalf > 0 || (againstHalf == 0 && odd);
            }
        }
    }

    /** Digit by digit, until one of the two decimals round the number comes back as it. */
    private static final class ShortestFinder {
        // Nine digits tell all numbers of 24 bits apart; the bound is only to end the loop.
        private static final int MOST_DIGITS = 17;
        private final Natural rest;
        private final Natural unit;
        private final Natural reachBelow;
        private final Natural reachAbove;
        private final Natural sum;
        private boolean endsBelong;
        private long digits;
        private int count;
        private int power;

        ShortestFinder() {
            rest = new Natural();
            unit = new Natural();
            reachBelow = new Natural();
            reachAbove = new Natural();
            sum = new Natural();
            endsBelong = false;
            digits = 0;
            count = 0;
            power = 0;
        }

        /** For a size that is finite and not 0. */
        void find(long size, Layout layout) {
            setRange(size, layout);
            setPower(size, layout);
            digits = 0;
            count = 0;
            long limit = 1;
            boolean found = false;
            while (!found && count < MOST_DIGITS) {
                if (count > 0) {
                    timesTen();
                }
                digits = digits * 10 + takeDigit();
                limit = limit * 10;
                count++;
                found = choose();
            }
            if (digits >= limit) {
                digits = limit / 10;
                power++;
            }
        }

        /** The number is rest / unit; the reaches go to the middles between it and its neighbours. */
        private void setRange(long size, Layout layout) {
            boolean nearerBelow = layout.fractionOf(size) == 0 && layout.exponentOf(size) > 1;
            endsBelong = (size & 1) == 0;
            rest.set(layout.significandOf(size) * 4);
            reachAbove.set(2);
            reachBelow.set(nearerBelow ? 1 : 2);
            unit.set(1);
            int quarter = layout.powerOf(size) - 2;
            if (quarter >= 0) {
                rest.shiftLeft(quarter);
                reachAbove.shiftLeft(quarter);
                reachBelow.shiftLeft(quarter);
            } else {
                unit.shiftLeft(-quarter);
            }
        }

        /** Finds the power of 10 of the first digit, and takes it away: 1 <= rest / unit < 10. */
        private void setPower(long size, Layout layout) {
            int log2 = layout.powerOf(size) + 63
                    - Long.numberOfLeadingZeros(layout.significandOf(size));
            // By this the power is right or one too small.
            power = Math.floorDiv(log2 * 30103, 100000);
            if (power >= 0) {
                unit.timesPowerOfTen(power);
            } else {
                rest.timesPowerOfTen(-power);
                reachAbove.timesPowerOfTen(-power);
                reachBelow.timesPowerOfTen(-power);
            }
            sum.copy(unit);
            sum.timesPlus(10, 0);
            if (rest.against(sum) >= 0) {
                unit.copy(sum);
                power++;
            }
        }

        private void timesTen() {
            rest.timesPlus(10, 0);
            reachAbove.timesPlus(10, 0);
            reachBelow.timesPlus(10, 0);
        }

        private int takeDigit() {
            int digit = 0;
            while (digit < 9 && rest.against(unit) >= 0) {
                rest.subtract(unit);
                digit++;
            }
            return digit;
        }

        /** Whether the digits, or those one above, come back; then they are the nearer ones. */
        private boolean choose() {
            boolean below = isWithin(rest.against(reachBelow));
            sum.copy(rest);
            sum.add(reachAbove);
            boolean above = isWithin(unit.against(sum));
            sum.copy(rest);
            sum.timesPlus(2, 0);
            boolean aboveIsNearer = sum.against(unit) > 0;
            if (above && (!below || aboveIsNearer)) {
                digits++;
            }
            return below || above;
        }

        private boolean isWithin(int againstEnd) {
            return againstEnd < 0 || (againstEnd == 0 && endsBelong);
        }
    }

    private static final class Told {
        // The longest is a -, 0, the point and 149 digits.
        private static final int ROOM = 160;
        private static final int CHUNK = 1000000000;
        private static final int CHUNK_DIGITS = 9;
        private final byte[] letters;
        private final byte[] reversed;
        private int length;

        Told() {
            letters = new byte[ROOM];
            reversed = new byte[ROOM];
            length = 0;
        }

        int at(int i) {
            return i >= 0 && i < ROOM ? letters[i] : 0;
        }

        void start(boolean negative) {
            length = 0;
            if (negative) {
                add('-');
            }
        }

        void add(int letter) {
            if (length >= 0 && length < ROOM) {
                letters[length] = (byte) letter;
                length++;
            }
        }

        /** Powers of 10 go from -45 to 38 alone: two digits at most. */
        void addPower(int power) {
            add('e');
            if (power < 0) {
                add('-');
            }
            int size = Math.abs(power);
            int count = size >= 10 ? 2 : 1;
            addDigits(size, count, count);
        }

        /** So many digits, the point behind the first ones of them, if others follow. */
        void addDigits(long value, int count, int ahead) {
            long rest = value;
            for (int i = 0; i < count && i < ROOM; i++) {
                reversed[i] = (byte) ('0' + rest % 10);
                rest = rest / 10;
            }
            addReversed(count, count - ahead);
        }

        /** All digits of value / 10^behind, 0 ahead of the point if it is below 1. */
        void addNatural(Natural value, int behind) {
            int count = 0;
            while (count < ROOM && !value.isZero()) {
                int chunk = value.divide(CHUNK);
                for (int i = 0; i < CHUNK_DIGITS && count < ROOM; i++) {
                    reversed[count] = (byte) ('0' + chunk % 10);
                    chunk = chunk / 10;
                    count++;
                }
            }
            while (count < ROOM && count <= behind) {
                reversed[count] = '0';
                count++;
            }
            while (count > 1 && count > behind + 1 && count <= ROOM && reversed[count - 1] == '0') {
                count--;
            }
            addReversed(count, behind);
        }

        private void addReversed(int count, int behind) {
            for (int i = Math.min(count, ROOM) - 1; i >= 0; i--) {
                add(reversed[i]);
                if (i == behind && i > 0) {
                    add('.');
                }
            }
        }
    }

    /** A whole number from 0 on, of up to 384 bits: the dearest one, 2^23 * 5^149, has 370. */
    private static final class Natural {
        private static final int LIMBS = 12;
        private static final long LOW = 0xFFFFFFFFL;
        private static final int FIVES = 13;
        private static final int FIVE_TO_FIVES = 1220703125;
        private final int[] limbs;

        Natural() {
            limbs = new int[LIMBS];
        }

        void set(long value) {
            for (int i = 2; i < LIMBS; i++) {
                limbs[i] = 0;
            }
            limbs[0] = (int) value;
            limbs[1] = (int) (value >>> 32);
        }

        void copy(Natural other) {
            for (int i = 0; i < LIMBS; i++) {
                limbs[i] = other.limbs[i];
            }
        }

        boolean isZero() {
            for (int i = 0; i < LIMBS; i++) {
                if (limbs[i] != 0) {
                    return false;
                }
            }
            return true;
        }

        /** Below 0, 0 or above 0, as this is less than, the same as or greater than the other. */
        int against(Natural other) {
            for (int i = LIMBS - 1; i >= 0; i--) {
                if (limbs[i] != other.limbs[i]) {
                    return (limbs[i] & LOW) < (other.limbs[i] & LOW) ? -1 : 1;
                }
            }
            return 0;
        }

        int bitLength() {
            for (int i = LIMBS - 1; i >= 0; i--) {
                if (limbs[i] != 0) {
                    return 32 * i + 32 - Integer.numberOfLeadingZeros(limbs[i]);
                }
            }
            return 0;
        }

        void add(Natural other) {
            long carry = 0;
            for (int i = 0; i < LIMBS; i++) {
                carry = carry + (limbs[i] & LOW) + (other.limbs[i] & LOW);
                limbs[i] = (int) carry;
                carry = carry >>> 32;
            }
        }

        /** The other is not greater than this. */
        void subtract(Natural other) {
            long borrow = 0;
            for (int i = 0; i < LIMBS; i++) {
                borrow = borrow + (limbs[i] & LOW) - (other.limbs[i] & LOW);
                limbs[i] = (int) borrow;
                borrow = borrow >> 32;
            }
        }

        void timesPlus(int factor, int addend) {
            long carry = addend;
            for (int i = 0; i < LIMBS; i++) {
                carry = carry + (limbs[i] & LOW) * factor;
                limbs[i] = (int) carry;
                carry = carry >>> 32;
            }
        }

        void timesPowerOfTen(int power) {
            timesPowerOfFive(power);
            shiftLeft(power);
        }

        void timesPowerOfFive(int power) {
            int left = power;
            while (left >= FIVES) {
                timesPlus(FIVE_TO_FIVES, 0);
                left = left - FIVES;
            }
            int factor = 1;
            while (left > 0) {
                factor = factor * 5;
                left--;
            }
            timesPlus(factor, 0);
        }

        void shiftLeft(int bits) {
            if (bits <= 0) {
                return;
            }
            int whole = bits >> 5;
            int part = bits & 31;
            for (int i = LIMBS - 1; i >= 0; i--) {
                long high = limbAt(i - whole) << part;
                long low = limbAt(i - whole - 1) >>> (32 - part);
                limbs[i] = (int) (high | low);
            }
        }

        /** Leaves the quotient, and answers the remainder. */
        int divide(int divisor) {
            if (divisor <= 0) {
                return 0;
            }
            long rest = 0;
            for (int i = LIMBS - 1; i >= 0; i--) {
                rest = (rest << 32) + (limbs[i] & LOW);
                limbs[i] = (int) (rest / divisor);
                rest = rest % divisor;
            }
            return (int) rest;
        }

        private long limbAt(int i) {
            return i >= 0 && i < LIMBS ? limbs[i] & LOW : 0;
        }
    }
}
