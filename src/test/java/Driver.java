/** A BitLoom whose every answer is a string: what the call answers, "null" for void, or what it throws. */
final class Driver {
    static final int WORK = 0xFF000000;
    static final int MOST_CALLS = 512;

    private final BitLoom loom = new BitLoom();
    private int calls = 0;
    private int words = 0;

    /** Fields a (unsigned, 4 bits), b (signed, 5), c (signed, 10, up to bit 23); words 0 .. words - 1 in use. */
    static Driver table(int words) {
        Driver d = new Driver();
        d.field('a', 0, 4, false);
        d.field('b', 4, 5, true);
        d.field('c', 14, 10, true);
        for (int i = 0; i < words; i++) {
            d.insert();
        }
        return d;
    }

    int calls() {
        return calls;
    }

    /** What an object answers behind its last promised call is free, so no test may ask for it. */
    private String outcome(Check.Call call) {
        calls++;
        if (calls > MOST_CALLS) {
            Check.due("calls of one object", MOST_CALLS, calls);
        }
        return Check.outcome(call);
    }

    String field(char name, int first, int width, boolean signed) {
        return outcome(() -> {
            loom.field(name, first, width, signed);
            return null;
        });
    }

    String insert() {
        return outcome(() -> {
            int word = loom.insert();
            words = Math.max(words, word + 1);
            return word;
        });
    }

    String remove(int word) {
        return outcome(() -> {
            loom.remove(word);
            return null;
        });
    }

    String put(int word, char name, int v) {
        return outcome(() -> {
            loom.put(word, name, v);
            return null;
        });
    }

    String get(int word, char name) {
        return outcome(() -> loom.get(word, name));
    }

    String bit(int word, int k) {
        return outcome(() -> loom.bit(word, k));
    }

    String search(int mask, int pattern, boolean among) {
        return outcome(() -> loom.search(mask, pattern, among));
    }

    String multi(int mask, int pattern) {
        return outcome(() -> {
            loom.multi(mask, pattern);
            return null;
        });
    }

    String responds(int word) {
        return outcome(() -> loom.responds(word));
    }

    String first() {
        return outcome(() -> loom.first());
    }

    String write(long characters) {
        return outcome(() -> loom.write(characters));
    }

    String wipe() {
        return outcome(() -> loom.wipe());
    }

    String run() {
        return outcome(() -> loom.run());
    }

    String place() {
        return outcome(() -> loom.place());
    }

    String refused() {
        return outcome(() -> loom.refused());
    }

    String listed(int i) {
        return outcome(() -> loom.listed(i));
    }

    /** Writes a whole text, eight characters at a time. */
    void text(String characters) {
        for (int i = 0; i < characters.length(); i += 8) {
            write(pack(characters.substring(i, Math.min(i + 8, characters.length()))));
        }
    }

    /** Makes this the whole text, and runs it. */
    String tell(String statement) {
        wipe();
        text(statement);
        return run();
    }

    /** The words that respond, such as "0 3 ", of those that were ever in use and the next one. */
    String responders() {
        StringBuilder s = new StringBuilder();
        for (int word = 0; word <= words && word < 32; word++) {
            String responds = responds(word);
            s.append(responds.equals("true") ? word + " " : responds.equals("false") ? "" : responds);
        }
        return s.toString();
    }

    /** The words that the latest list listed, in their order. */
    String list() {
        StringBuilder s = new StringBuilder();
        String word = listed(0);
        for (int i = 1; !word.equals(Check.INDEX) && i <= 33; i++) {
            s.append(word).append(' ');
            word = listed(i);
        }
        return s.toString();
    }

    /** All bits of a word as one int. */
    int bits(int word) {
        return bits(word, 0, 31);
    }

    /** Some bits of a word, the others as 0. */
    int bits(int word, int from, int to) {
        int bits = 0;
        for (int k = from; k <= to; k++) {
            bits |= bit(word, k).equals("true") ? 1 << k : 0;
        }
        return bits;
    }

    static long pack(String characters) {
        long packed = 0;
        for (int i = 0; i < characters.length(); i++) {
            packed |= (long) characters.charAt(i) << 8 * i;
        }
        return packed;
    }
}
