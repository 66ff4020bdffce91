import java.util.NoSuchElementException;

/** What every test uses: counts the answers that are not as due, and types and hears texts. */
final class Check {
    private final String name;
    private int calls = 0;
    private int wrong = 0;

    Check(String name) {
        this.name = name;
    }

    void due(String call, Object got, Object want) {
        calls++;
        if (!want.equals(got)) {
            wrong++;
            if (wrong <= 20) {
                System.out.println(name + ": " + call + " answered " + got + ", due is " + want);
            }
        }
    }

    void end() {
        System.out.println(name + ": " + (calls - wrong) + " of " + calls + " answers as due");
        if (wrong != 0 || calls == 0) {
            System.exit(1);
        }
    }

    static boolean typeAll(DecimalDesk desk, String text) {
        boolean all = true;
        for (int at = 0; at < text.length(); at += 8) {
            String part = text.substring(at, Math.min(at + 8, text.length()));
            all &= desk.type(word(part), part.length());
        }
        return all;
    }

    static long word(String part) {
        long word = 0;
        for (int i = 0; i < part.length(); i++) {
            word = word << 8 | part.charAt(i);
        }
        return word;
    }

    /** A PATTERN as its number, or the exception's name. */
    static String read(DecimalDesk desk) {
        try {
            return "" + desk.read();
        } catch (RuntimeException e) {
            return e.getClass().getName();
        }
    }

    static String read(DecimalDesk desk, String text) {
        if (!typeAll(desk, text)) {
            return "not typed";
        }
        return read(desk);
    }

    static String shortest(DecimalDesk desk, long pattern) {
        try {
            return heard(desk, desk.shortest(pattern));
        } catch (RuntimeException e) {
            return e.getClass().getName();
        }
    }

    static String exact(DecimalDesk desk, long pattern) {
        try {
            return heard(desk, desk.exact(pattern));
        } catch (RuntimeException e) {
            return e.getClass().getName();
        }
    }

    static String letter(DecimalDesk desk, int i) {
        try {
            return "" + desk.letter(i);
        } catch (RuntimeException e) {
            return e.getClass().getName();
        }
    }

    /** All letters of what was told last, found without knowing how many there are. */
    static String toldBy(DecimalDesk desk) {
        StringBuilder text = new StringBuilder();
        try {
            for (int i = 0; i < 1000; i++) {
                text.append((char) desk.letter(i));
            }
        } catch (NoSuchElementException e) {
            return text.toString();
        }
        return "without end";
    }

    private static String heard(DecimalDesk desk, int count) {
        String text = toldBy(desk);
        return text.length() == count ? text : text + " counted as " + count;
    }

    static final String ILLEGAL = "java.lang.IllegalArgumentException";
    static final String NO_SUCH = "java.util.NoSuchElementException";
}
