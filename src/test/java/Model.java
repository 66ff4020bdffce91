import java.math.BigDecimal;
import java.math.BigInteger;
import java.math.MathContext;
import java.math.RoundingMode;
import java.util.regex.Pattern;

/** The document once more, as plainly as java.math lets one say it, by other ways than the class. */
final class Model {
    static final BigDecimal TWO = BigDecimal.valueOf(2);
    private static final Pattern DECIMAL =
            Pattern.compile("-?(?=[0-9.]{1,41}(e|$))[0-9]+([.][0-9]+)?(e[+-]?[0-9]{1,3})?");

    int e = 8;
    int m = 23;
    int mode = 0;
    int flags = 0;
    String tape = "";
    String told = "";

    static BigDecimal powerOfTwo(int n) {
        return n >= 0 ? TWO.pow(n) : new BigDecimal(BigInteger.valueOf(5).pow(-n), -n);
    }

    long signBit() {
        return 1L << e + m;
    }

    long infinity() {
        return (1L << e) - 1 << m;
    }

    int bias() {
        return (1 << e - 1) - 1;
    }

    /** The value of a pattern without sign, all e but 0 taken as finite ones. */
    BigDecimal value(long size) {
        long exponent = size >> m;
        long fraction = size % (1L << m);
        return exponent == 0
                ? BigDecimal.valueOf(fraction).multiply(powerOfTwo(1 - bias() - m))
                : BigDecimal.valueOf((1L << m) + fraction).multiply(powerOfTwo((int) exponent - bias() - m));
    }

    boolean isDecimal(String text) {
        if (!DECIMAL.matcher(text).matches()) {
            return false;
        }
        String digits = text.split("e")[0].replace("-", "").replace(".", "");
        return digits.length() <= 40;
    }

    /** The size that a value from 0 on is rounded to, as if e could be one greater than it can. */
    long roundSize(BigDecimal value, boolean negative, int by) {
        long low = 0;
        long high = infinity();
        if (value.compareTo(value(high)) >= 0) {
            return high;
        }
        while (high - low > 1) {
            long middle = (low + high) / 2;
            if (value(middle).compareTo(value) <= 0) {
                low = middle;
            } else {
                high = middle;
            }
        }
        if (value(low).compareTo(value) == 0) {
            return low;
        }
        int half = value.multiply(TWO).compareTo(value(low).add(value(high)));
        switch (by) {
            case 0: return half > 0 || half == 0 && low % 2 == 1 ? high : low;
            case 1: return low;
            case 2: return negative ? low : high;
            case 3: return negative ? high : low;
            default: return half >= 0 ? high : low;
        }
    }

    /** The pattern, or -1 for what is no decimal. */
    long read() {
        String text = tape;
        tape = "";
        if (!isDecimal(text)) {
            return -1;
        }
        boolean negative = text.charAt(0) == '-';
        BigDecimal value = new BigDecimal(text).abs();
        long size = roundSize(value, negative, mode);
        if (size >= infinity()) {
            flags |= 3;
            boolean grows = mode == 0 || mode == 4 || mode == (negative ? 3 : 2);
            size = grows ? infinity() : infinity() - 1;
        } else if (value(size).compareTo(value) != 0) {
            flags |= value.compareTo(powerOfTwo(1 - bias())) < 0 ? 5 : 1;
        }
        return negative ? signBit() + size : size;
    }

    boolean holds(long pattern) {
        return pattern >= 0 && pattern < 2 * signBit();
    }

    private String notFinite(long pattern) {
        long size = pattern % signBit();
        if (size > infinity()) {
            return "nan";
        }
        return size < infinity() ? "" : sign(pattern) + "inf";
    }

    private String sign(long pattern) {
        return pattern >= signBit() ? "-" : "";
    }

    String exact(long pattern) {
        String special = notFinite(pattern);
        if (!special.isEmpty()) {
            return special;
        }
        BigDecimal value = value(pattern % signBit());
        String digits = value.signum() == 0 ? "0" : value.stripTrailingZeros().toPlainString();
        return sign(pattern) + digits;
    }

    String shortest(long pattern) {
        String special = notFinite(pattern);
        if (!special.isEmpty()) {
            return special;
        }
        long size = pattern % signBit();
        if (size == 0) {
            return sign(pattern) + "0e0";
        }
        BigDecimal value = value(size);
        for (int n = 1; ; n++) {
            BigDecimal below = value.round(new MathContext(n, RoundingMode.DOWN));
            BigDecimal above = value.round(new MathContext(n, RoundingMode.UP));
            boolean belowComes = below.signum() > 0 && roundSize(below, false, 0) == size;
            boolean aboveComes = roundSize(above, false, 0) == size;
            if (belowComes || aboveComes) {
                boolean isBelow = belowComes && (!aboveComes
                        || value.subtract(below).compareTo(above.subtract(value)) <= 0);
                return sign(pattern) + scientific(isBelow ? below : above);
            }
        }
    }

    static String scientific(BigDecimal value) {
        BigDecimal bare = value.stripTrailingZeros();
        String digits = bare.unscaledValue().toString();
        int power = digits.length() - 1 - bare.scale();
        String point = digits.length() > 1 ? "." + digits.substring(1) : "";
        return digits.charAt(0) + point + "e" + power;
    }

    long next(long pattern, boolean up) {
        if (!holds(pattern) || pattern % signBit() >= infinity()) {
            return -1;
        }
        long size = pattern % signBit();
        boolean negative = pattern >= signBit();
        long signed = (negative ? -size : size) + (up ? 1 : -1);
        boolean nowNegative = signed < 0 || signed == 0 && negative;
        return Math.abs(signed) + (nowNegative ? signBit() : 0);
    }
}
