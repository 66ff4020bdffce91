import java.util.Random;

/** Runs of up to 512 calls of every kind, ordinary and wrong ones, each answer held against the model. */
public final class ModelRunsTest {
    private static final int MOST_CALLS = 512;
    // What one step may take: an exact() and all its letters, and one beyond.
    private static final int DEAREST_STEP = 160;
    private static final String ALPHABET = "0123456789012345678901234567890123456789...eee-+x ~";
    private final Random random;
    private final DecimalDesk desk = new DecimalDesk();
    private final Model model = new Model();
    private final String name;
    private boolean ok = true;
    private int calls = 0;

    private ModelRunsTest(int seed) {
        random = new Random(seed);
        name = "run " + seed + ": ";
    }

    public static void main(String[] args) {
        for (int seed = 1; seed <= 2000; seed++) {
            ModelRunsTest run = new ModelRunsTest(seed);
            while (run.ok && run.calls + DEAREST_STEP <= MOST_CALLS) {
                run.step();
            }
            if (!run.ok) {
                System.exit(1);
            }
        }
        System.out.println("ModelRunsTest: all runs as due");
    }

    /** The answer of one call; those that hear a whole text count its letters besides. */
    private void due(String call, Object got, Object want) {
        calls++;
        if (!want.equals(got)) {
            ok = false;
            System.out.println("ModelRunsTest: " + name + call + " answered " + got + ", due is " + want);
        }
    }

    private void step() {
        switch (random.nextInt(12)) {
            case 0: format(); break;
            case 1: mode(); break;
            case 2: typeBytes(); break;
            case 3: case 4: case 5: typeDecimal(); read(); break;
            case 6: read(); break;
            case 7: due("flags()", desk.flags(), model.flags); break;
            case 8: clear(); break;
            case 9: tell(); break;
            case 10: letter(); break;
            default: next();
        }
    }

    private void format() {
        if (random.nextInt(3) > 0) {
            return;
        }
        int e = random.nextInt(9) + 1;
        int m = random.nextInt(26) - 1;
        boolean good = e >= 2 && e <= 8 && m >= 1 && m <= 23;
        due("format(" + e + ", " + m + ")", desk.format(e, m), good);
        if (good) {
            model.e = e;
            model.m = m;
        }
    }

    private void mode() {
        int mode = random.nextInt(8) - 2;
        boolean good = mode >= 0 && mode <= 4;
        due("mode(" + mode + ")", desk.mode(mode), good);
        model.mode = good ? mode : model.mode;
    }

    private void typeBytes() {
        StringBuilder text = new StringBuilder();
        int n = random.nextInt(11);
        for (int i = 0; i < n; i++) {
            text.append(ALPHABET.charAt(random.nextInt(ALPHABET.length())));
        }
        type(text.toString(), n);
    }

    private void type(String text, int n) {
        boolean good = n >= 1 && n <= 8 && text.indexOf(' ') < 0 && model.tape.length() + n <= 60;
        due("type " + text, desk.type(Check.word(text), n), good);
        model.tape = good ? model.tape + text : model.tape;
    }

    private void typeDecimal() {
        if (random.nextInt(4) > 0 && !model.tape.isEmpty()) {
            read();
        }
        String text = random.nextBoolean() ? nearNumber() : anyDecimal();
        for (int at = 0; at < text.length(); at += 8) {
            String part = text.substring(at, Math.min(at + 8, text.length()));
            type(part, part.length());
        }
    }

    private String anyDecimal() {
        StringBuilder text = new StringBuilder(random.nextBoolean() ? "-" : "");
        int count = 1 + random.nextInt(41);
        int point = random.nextInt(count + 3);
        for (int i = 0; i < count; i++) {
            text.append(i == point ? "." : "").append(random.nextInt(3) == 0 ? random.nextInt(10) : 0);
        }
        if (random.nextInt(3) > 0) {
            text.append('e').append(random.nextInt(4) == 0 ? "+" : "");
            text.append(random.nextInt(random.nextBoolean() ? 100 : 1100) - 50);
        }
        return text.toString();
    }

    /** A number, the middle to the next one, or one digit beside these, as far as 40 digits go. */
    private String nearNumber() {
        long size = Math.floorMod(random.nextLong(), model.infinity() + 1);
        if (random.nextInt(3) == 0) {
            size = random.nextBoolean() ? random.nextInt(3) : model.infinity() - random.nextInt(2);
        }
        java.math.BigDecimal value = model.value(size);
        if (random.nextBoolean()) {
            value = value.add(model.value(size + 1)).divide(Model.TWO);
        }
        value = value.round(new java.math.MathContext(40, java.math.RoundingMode.DOWN));
        value = value.add(value.ulp().multiply(java.math.BigDecimal.valueOf(random.nextInt(3) - 1))).abs();
        return (random.nextBoolean() ? "-" : "") + value.unscaledValue() + "e" + -value.scale();
    }

    private void read() {
        String text = model.tape;
        long want = model.read();
        due("read() " + text + " in mode " + model.mode + " of " + model.e + ", " + model.m,
                Check.read(desk), want < 0 ? Check.ILLEGAL : "" + want);
        due("flags() behind read() " + text, desk.flags(), model.flags);
    }

    private void clear() {
        int mask = random.nextInt(16);
        due("clear(" + mask + ")", desk.clear(mask), model.flags & mask);
        model.flags &= ~mask;
    }

    private long anyPattern() {
        if (random.nextInt(8) == 0) {
            return random.nextBoolean() ? random.nextLong() : 2 * model.signBit() + random.nextInt(3) - 1;
        }
        long pattern = Math.floorMod(random.nextLong(), 2 * model.signBit());
        return random.nextInt(3) == 0 ? pattern >> model.m << model.m : pattern;
    }

    private void tell() {
        long pattern = anyPattern();
        boolean all = random.nextBoolean();
        String want = Check.ILLEGAL;
        if (model.holds(pattern)) {
            model.told = all ? model.exact(pattern) : model.shortest(pattern);
            want = model.told;
        }
        due((all ? "exact(" : "shortest(") + pattern + ") of " + model.e + ", " + model.m,
                all ? Check.exact(desk, pattern) : Check.shortest(desk, pattern), want);
        calls += model.holds(pattern) ? want.length() + 1 : 0;
    }

    private void letter() {
        int i = random.nextInt(model.told.length() + 4) - 2;
        boolean good = i >= 0 && i < model.told.length();
        due("letter(" + i + ")", Check.letter(desk, i), good ? "" + (int) model.told.charAt(i) : Check.NO_SUCH);
    }

    private void next() {
        long pattern = anyPattern();
        boolean up = random.nextBoolean();
        due("next(" + pattern + ", " + up + ")", desk.next(pattern, up), model.next(pattern, up));
    }
}
