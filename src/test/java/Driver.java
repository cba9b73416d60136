/** A BitLoom whose every answer is a string: what the call answers, "null" for void, or what it throws. */
final class Driver {
    final BitLoom loom = new BitLoom();

    String field(char name, int first, int width, boolean signed) {
        return Check.outcome(() -> {
            loom.field(name, first, width, signed);
            return null;
        });
    }

    String insert() {
        return Check.outcome(() -> loom.insert());
    }

    String remove(int word) {
        return Check.outcome(() -> {
            loom.remove(word);
            return null;
        });
    }

    String put(int word, char name, int v) {
        return Check.outcome(() -> {
            loom.put(word, name, v);
            return null;
        });
    }

    String get(int word, char name) {
        return Check.outcome(() -> loom.get(word, name));
    }

    String bit(int word, int k) {
        return Check.outcome(() -> loom.bit(word, k));
    }

    String search(int mask, int pattern, boolean among) {
        return Check.outcome(() -> loom.search(mask, pattern, among));
    }

    String multi(int mask, int pattern) {
        return Check.outcome(() -> {
            loom.multi(mask, pattern);
            return null;
        });
    }

    String responds(int word) {
        return Check.outcome(() -> loom.responds(word));
    }

    String first() {
        return Check.outcome(() -> loom.first());
    }

    String write(long characters) {
        return Check.outcome(() -> loom.write(characters));
    }

    String wipe() {
        return Check.outcome(() -> loom.wipe());
    }

    String run() {
        return Check.outcome(() -> loom.run());
    }

    String place() {
        return Check.outcome(() -> loom.place());
    }

    String refused() {
        return Check.outcome(() -> loom.refused());
    }

    String listed(int i) {
        return Check.outcome(() -> loom.listed(i));
    }

    /** Writes a whole text, eight characters at a time. */
    void text(String characters) {
        for (int i = 0; i < characters.length(); i += 8) {
            write(pack(characters.substring(i, Math.min(i + 8, characters.length()))));
        }
    }

    /** Makes this the whole text, and runs it. */
    String tell(String statement) {
        wipe();
        text(statement);
        return run();
    }

    /** The words that respond, such as "0 3 ". */
    String responders() {
        StringBuilder s = new StringBuilder();
        for (int word = 0; word < 32; word++) {
            s.append(loom.responds(word) ? word + " " : "");
        }
        return s.toString();
    }

    /** The words that the latest list listed, in their order. */
    String list() {
        StringBuilder s = new StringBuilder();
        for (int i = 0; !listed(i).equals("IndexOutOfBoundsException"); i++) {
            s.append(listed(i)).append(' ');
        }
        return s.toString();
    }

    /** All bits of a word as one int. */
    int bits(int word) {
        int bits = 0;
        for (int k = 0; k < 32; k++) {
            bits |= loom.bit(word, k) ? 1 << k : 0;
        }
        return bits;
    }

    /** All that the calls that change nothing can tell. */
    String state() {
        StringBuilder s = new StringBuilder(responders());
        for (int word = 0; word < 32; word++) {
            s.append('/').append(Integer.toHexString(bits(word)));
            for (char name = 'a'; name <= 'z'; name++) {
                s.append(' ').append(get(word, name));
            }
        }
        return s.append(refused()).append(' ').append(list()).toString();
    }

    static long pack(String characters) {
        long packed = 0;
        for (int i = 0; i < characters.length(); i++) {
            packed |= (long) characters.charAt(i) << 8 * i;
        }
        return packed;
    }
}
