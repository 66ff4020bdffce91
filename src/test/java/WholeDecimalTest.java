import java.util.HashSet;
import java.util.Set;

/**
 * The Term DECIMAL the other way round: all that it lets one write in up to 6 of the LETTERS is written,
 * and of all texts of up to 6 of them just those are read. (0 and 5 stand for all digits.)
 */
public final class WholeDecimalTest {
    private static final int LONGEST = 6;
    private static final char[] LETTERS = {'0', '5', '.', 'e', '+', '-', 'E'};
    private final Check check = new Check("WholeDecimalTest");
    private final Set<String> decimals = new HashSet<>();
    private DecimalDesk desk = new DecimalDesk();
    private int texts = 0;
    private int read = 0;

    public static void main(String[] args) {
        new WholeDecimalTest().run();
    }

    private void run() {
        writeAll();
        askAll("");
        check.due("how many were read", read, decimals.size());
        check.end();
    }

    private void writeAll() {
        for (String digits : digitRows(LONGEST)) {
            writeDigits(digits);
            for (int ahead = 1; ahead < digits.length(); ahead++) {
                writeDigits(digits.substring(0, ahead) + "." + digits.substring(ahead));
            }
        }
    }

    private void writeDigits(String digits) {
        for (String minus : new String[] {"", "-"}) {
            write(minus + digits);
            for (String sign : new String[] {"", "+", "-"}) {
                for (String power : digitRows(3)) {
                    write(minus + digits + "e" + sign + power);
                }
            }
        }
    }

    private void write(String text) {
        if (text.length() <= LONGEST) {
            decimals.add(text);
        }
    }

    /** All rows of 1 digit up to so many, of the two digits that stand for all. */
    private static Set<String> digitRows(int longest) {
        Set<String> rows = new HashSet<>(Set.of("0", "5"));
        for (int length = 2; length <= longest; length++) {
            Set<String> longer = new HashSet<>(rows);
            for (String row : rows) {
                longer.add(row + "0");
                longer.add(row + "5");
            }
            rows = longer;
        }
        return rows;
    }

    private void askAll(String text) {
        ask(text);
        if (text.length() < LONGEST) {
            for (char letter : LETTERS) {
                askAll(text + letter);
            }
        }
    }

    private void ask(String text) {
        texts++;
        if (texts % 200 == 0) {
            desk = new DecimalDesk();
        }
        boolean isRead = !Check.read(desk, text).equals(Check.ILLEGAL);
        check.due("whether \"" + text + "\" is read", isRead, decimals.contains(text));
        read += isRead ? 1 : 0;
    }
}
