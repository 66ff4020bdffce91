import java.math.BigDecimal;
import java.math.RoundingMode;
import java.util.NoSuchElementException;

/** What every test uses: counts the answers that are not as due, and types and hears texts. */
final class Check {
    private final String name;
    private String sentence = "";
    private int sentences = 0;
    private int unheld = 0;
    private int callsBefore = 0;
    private int wrongBefore = 0;
    private int calls = 0;
    private int wrong = 0;

    Check(String name) {
        this.name = name;
    }

    /** From here on, until the next one, answers stand for this sentence of the document alone. */
    void sentence(String words) {
        endSentence();
        sentence = words;
        sentences++;
    }

    void due(String call, Object got, Object want) {
        calls++;
        if (!want.equals(got)) {
            wrong++;
            if (wrong - wrongBefore <= 20) {
                System.out.println(name + ": " + call + " answered " + got + ", due is " + want);
            }
        }
    }

    void end() {
        endSentence();
        String held = sentences == 0 ? "" : ", " + (sentences - unheld) + " of " + sentences + " sentences hold";
        System.out.println(name + ": " + (calls - wrong) + " of " + calls + " answers as due" + held);
        if (wrong != 0 || unheld != 0 || calls == 0) {
            System.exit(1);
        }
    }

    /** A sentence that nothing was asked of counts as one that does not hold. */
    private void endSentence() {
        if (!sentence.isEmpty() && (wrong > wrongBefore || calls == callsBefore)) {
            unheld++;
            System.out.println(name + ": DOES NOT HOLD: " + sentence);
        }
        callsBefore = calls;
        wrongBefore = wrong;
        sentence = "";
    }

    static DecimalDesk desk(int e, int m) {
        DecimalDesk desk = new DecimalDesk();
        desk.format(e, m);
        return desk;
    }

    /** A desk on which nothing is as on a new one: so a call that changes anything is seen. */
    static DecimalDesk busyDesk() {
        DecimalDesk desk = new DecimalDesk();
        desk.format(4, 3);
        read(desk, "1e-99");
        desk.mode(2);
        desk.exact(185);
        // A letter more or less would be seen: its exponent would be another one, or none.
        typeAll(desk, "106e-2");
        return desk;
    }

    /** FORMAT, MODE, tape, FLAGS and what was told, all as busyDesk() left them. */
    void staysBusy(String call, DecimalDesk desk) {
        due("flags() behind " + call, desk.flags(), 5);
        due("what was told behind " + call, toldBy(desk), "-1.125");
        // Only MODE 2 takes 1.06 up to 1.125, and only the FORMAT 4, 3 has that as 57.
        due("read() of the tape behind " + call, read(desk), "57");
    }

    static boolean typeAll(DecimalDesk desk, String text) {
        boolean all = true;
        for (int at = 0; at < text.length(); at += 8) {
            String part = text.substring(at, Math.min(at + 8, text.length()));
            all &= desk.type(word(part), part.length());
        }
        return all;
    }

    static long word(String part) {
        long word = 0;
        for (int i = 0; i < part.length(); i++) {
            word = word << 8 | part.charAt(i);
        }
        return word;
    }

    /** The value cut off behind 40 digits, and so many units of the last one beside that, as a DECIMAL. */
    static String beside(BigDecimal value, int units) {
        BigDecimal full = value.setScale(40 - value.precision() + value.scale(), RoundingMode.DOWN);
        BigDecimal beside = full.add(full.ulp().multiply(BigDecimal.valueOf(units)));
        return beside.unscaledValue() + "e" + -beside.scale();
    }

    /** A PATTERN as its number, or the exception's name. */
    static String read(DecimalDesk desk) {
        try {
            return "" + desk.read();
        } catch (RuntimeException e) {
            return e.getClass().getName();
        }
    }

    static String read(DecimalDesk desk, String text) {
        if (!typeAll(desk, text)) {
            return "not typed";
        }
        return read(desk);
    }

    static String shortest(DecimalDesk desk, long pattern) {
        try {
            return heard(desk, desk.shortest(pattern));
        } catch (RuntimeException e) {
            return e.getClass().getName();
        }
    }

    static String exact(DecimalDesk desk, long pattern) {
        try {
            return heard(desk, desk.exact(pattern));
        } catch (RuntimeException e) {
            return e.getClass().getName();
        }
    }

    static String letter(DecimalDesk desk, int i) {
        try {
            return "" + desk.letter(i);
        } catch (RuntimeException e) {
            return e.getClass().getName();
        }
    }

    /** All letters of what was told last, found without knowing how many there are. */
    static String toldBy(DecimalDesk desk) {
        StringBuilder text = new StringBuilder();
        try {
            for (int i = 0; i < 1000; i++) {
                text.append((char) desk.letter(i));
            }
        } catch (NoSuchElementException e) {
            return text.toString();
        }
        return "without end";
    }

    private static String heard(DecimalDesk desk, int count) {
        String text = toldBy(desk);
        return text.length() == count ? text : text + " counted as " + count;
    }

    static final String ILLEGAL = "java.lang.IllegalArgumentException";
    static final String NO_SUCH = "java.util.NoSuchElementException";
}
