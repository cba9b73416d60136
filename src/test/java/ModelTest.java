import java.util.Random;

/** Long runs of random calls, each answer held against the model's. The seeds are fixed: every run is the same. */
public final class ModelTest {
    private static final int RUNS = 4000;

    /** A step takes at most 23 calls and the last look at all at most 193, all together no more than an object has. */
    private static final int CALLS_OF_A_STEP = 23;
    private static final int CALLS_OF_A_LOOK = 193;

    private final Random random;
    private final Driver driver = new Driver();
    private final Model model = new Model();

    private ModelTest(long seed) {
        random = new Random(seed);
    }

    public static void main(String[] args) {
        for (long seed = 0; seed < RUNS; seed++) {
            new ModelTest(seed).go(seed);
        }
        Check.due("texts that were statements are many", true, Model.statements > 5000);
        Check.due("texts that were none are many", true, Model.faults > 5000);
        Check.end();
    }

    private void go(long seed) {
        int fields = random.nextInt(7);
        for (int i = 0; i < fields; i++) {
            field();
        }
        for (int i = random.nextInt(33); i > 0; i--) {
            Check.due("insert", Check.outcome(model::insert), driver.insert());
        }
        boolean looksAtAll = seed % 2 == 0;
        int last = Driver.MOST_CALLS - CALLS_OF_A_STEP - (looksAtAll ? CALLS_OF_A_LOOK : 0);
        while (driver.calls() <= last) {
            step("seed " + seed + " behind call " + driver.calls() + " ");
        }
        if (looksAtAll) {
            compareAll("seed " + seed + " at the end ");
        }
        while (driver.calls() < Driver.MOST_CALLS) {
            compareBit("seed " + seed + " behind call " + driver.calls() + " ");
        }
    }

    private void step(String at) {
        int kind = random.nextInt(16);
        if (kind < 5) {
            statement(at);
        } else if (kind < 9) {
            int word = word();
            char name = name();
            int v = random.nextInt(4) == 0 ? random.nextInt() : random.nextInt(2100) - 1050 >> random.nextInt(11);
            Check.due(at + "put " + word + name + v, Check.outcome(() -> model.put(word, name, v)), driver.put(word, name, v));
            Check.due(at + "get " + word + name, Check.outcome(() -> model.get(word, name)), driver.get(word, name));
        } else if (kind == 9) {
            field();
        } else if (kind == 10) {
            Check.due(at + "insert", Check.outcome(model::insert), driver.insert());
        } else if (kind == 11) {
            int word = word();
            Check.due(at + "remove " + word, Check.outcome(() -> model.remove(word)), driver.remove(word));
        } else if (kind == 12) {
            int mask = random.nextInt() & random.nextInt() & random.nextInt() & random.nextInt();
            int pattern = random.nextInt(3) == 0 ? random.nextInt() : 0;
            boolean among = random.nextBoolean();
            Check.due(at + "search", model.search(mask, pattern, among), Integer.parseInt(driver.search(mask, pattern, among)));
        } else if (kind == 13) {
            int mask = random.nextInt() & (random.nextInt(4) == 0 ? 0xFF800000 : 0xFF000000);
            int pattern = random.nextInt();
            Check.due(at + "multi", Check.outcome(() -> model.multi(mask, pattern)), driver.multi(mask, pattern));
        } else if (kind == 14) {
            Check.due(at + "first", String.valueOf(model.first()), driver.first());
        } else {
            long characters = random.nextLong() & 0x7F7F7F7F7F7F7F7FL & (random.nextBoolean() ? 0xFFFFFF : -1);
            Check.due(at + "write", String.valueOf(model.write(characters)), driver.write(characters));
        }
        compare(at);
    }

    private void compareBit(String at) {
        int word = random.nextInt(32);
        int k = random.nextInt(3) == 0 ? 24 + random.nextInt(8) : random.nextInt(32);
        Check.due(at + "bit " + k + " of " + word, String.valueOf((model.bits[word] >>> k & 1) == 1), driver.bit(word, k));
    }

    private void compare(String at) {
        int word = random.nextInt(32);
        int i = random.nextInt(model.list.size() + 2) - 1;
        compareBit(at);
        Check.due(at + "responds " + word, String.valueOf(model.responders.contains(word)), driver.responds(word));
        Check.due(at + "place", String.valueOf(model.place), driver.place());
        Check.due(at + "refused", String.valueOf(model.refused), driver.refused());
        Check.due(at + "listed " + i, Check.outcome(() -> model.listed(i)), driver.listed(i));
    }

    private void compareAll(String at) {
        for (int word = 0; word < 32; word++) {
            Check.due(at + "responds " + word, String.valueOf(model.responders.contains(word)), driver.responds(word));
        }
        for (int n = 0; n < 4; n++) {
            int word = random.nextInt(32);
            Check.due(at + "bits of " + word, model.bits[word], driver.bits(word));
        }
        Check.due(at + "list", model.listText(), driver.list());
    }

    private void field() {
        char name = name();
        int first = random.nextInt(27) - 1;
        int width = random.nextInt(random.nextBoolean() ? 12 : 5);
        boolean signed = random.nextBoolean();
        Check.due("field " + name + first + "," + width,
                Check.outcome(() -> model.field(name, first, width, signed)), driver.field(name, first, width, signed));
    }

    private void statement(String at) {
        if (random.nextInt(6) != 0) {
            Check.due(at + "wipe", String.valueOf(model.wipe()), driver.wipe());
        }
        String text = spoil(text());
        for (int i = 0; i < text.length(); i += 8) {
            long packed = Driver.pack(text.substring(i, Math.min(i + 8, text.length())));
            Check.due(at + "write", String.valueOf(model.write(packed)), driver.write(packed));
        }
        String whole = model.text.toString();
        Check.due(at + "run |" + whole + "|", Check.outcome(model::run), driver.run());
    }

    private int word() {
        return random.nextInt(36) - 2;
    }

    /** Mostly a name that is likely to be a field's. */
    private char name() {
        return random.nextInt(12) == 0 ? (char) random.nextInt(128) : (char) ('a' + random.nextInt(7));
    }

    private String fieldWord() {
        if (model.fields.isEmpty() || random.nextInt(40) == 0) {
            return String.valueOf((char) ('a' + random.nextInt(26)));
        }
        return String.valueOf(model.fields.get(random.nextInt(model.fields.size())).name);
    }

    private String gap() {
        return random.nextInt(3) == 0 ? " " : "";
    }

    private String text() {
        String s = random.nextInt(4) == 0 ? "" : "where " + condition(random.nextInt(4)) + " ";
        switch (random.nextInt(9)) {
            case 0: return s + "max " + fieldWord();
            case 1: return s + "min " + fieldWord();
            case 2: return s + "sum " + fieldWord();
            case 3: return s + "list " + fieldWord();
            case 4: return s + "count";
            case 5: return s + "set " + change() + "," + gap() + change();
            case 6: return s + "set " + change() + "," + gap() + change() + gap();
            default: return s + "set " + change();
        }
    }

    private String change() {
        String s = fieldWord() + gap() + "=" + gap() + operand();
        return random.nextInt(3) == 0 ? s : s + gap() + "+-*".charAt(random.nextInt(3)) + gap() + operand();
    }

    private String operand() {
        int number = random.nextInt(2) == 0 ? random.nextInt(8) : random.nextInt(1010);
        switch (random.nextInt(4)) {
            case 0: return String.valueOf(number);
            case 1: return "-" + gap() + number;
            default: return fieldWord();
        }
    }

    private String condition(int depth) {
        StringBuilder s = new StringBuilder(one(depth));
        for (int i = random.nextInt(3); i > 0; i--) {
            s.append(gap()).append(random.nextBoolean() ? '&' : '|').append(gap()).append(one(depth));
        }
        return s.toString();
    }

    private String one(int depth) {
        int kind = random.nextInt(depth > 0 ? 4 : 2);
        if (kind == 0 && random.nextInt(4) == 0) {
            return "!".repeat(1 + random.nextInt(9)) + one(0);
        }
        if (kind < 2) {
            return operand() + gap() + "<=>".charAt(random.nextInt(3)) + gap() + operand();
        }
        return kind == 2 ? "!" + gap() + one(depth - 1) : "(" + condition(depth - 1) + ")";
    }

    /** Every other text is changed in one or two characters. */
    private String spoil(String text) {
        StringBuilder s = new StringBuilder(text);
        for (int i = Math.max(0, random.nextInt(5) - 2); i > 0 && s.length() > 0; i--) {
            int at = random.nextInt(s.length());
            String signs = "<=>&|!(),+-*  ab1290#A";
            switch (random.nextInt(4)) {
                case 0: s.deleteCharAt(at); break;
                case 1: s.setLength(at); break;
                case 2: s.setCharAt(at, signs.charAt(random.nextInt(signs.length()))); break;
                default: s.insert(at, signs.charAt(random.nextInt(signs.length())));
            }
        }
        return s.toString();
    }
}
