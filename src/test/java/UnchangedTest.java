import java.util.function.Function;

/**
 * 'A call that throws changes nothing but place()': of two objects with the same past one makes a call that throws,
 * and then both answer the same to all that can be asked.
 */
public final class UnchangedTest {
    private static final int[] SOME_WORDS = {0, 1, 2, 3, 4, 31};

    public static void main(String[] args) {
        field();
        insert();
        remove();
        put();
        get();
        bit();
        multi();
        responds();
        listed();
        runOfNoStatement();
        runOfMaxAndMin();
        writeThatIsFalse();
        Check.end();
    }

    /**
     * Words 0, 1 and 3 in use, with work bits, of which 1 and 3 respond; three were listed, one was refused; a run
     * was wrong at 5; the text can be ended.
     */
    private static Driver some(String text) {
        Driver d = Driver.table(4);
        for (int word = 0; word < 4; word++) {
            d.put(word, 'a', 12 + word);
            d.put(word, 'b', word % 2 == 0 ? 5 * word + 3 : -word);
            d.put(word, 'c', 100 * word - 200);
        }
        d.tell("where b < 5 list b");
        d.tell("set a = a + 1");
        d.tell("list q");
        d.wipe();
        d.remove(2);
        d.search(0, 0, false);
        d.multi(Driver.WORK, 0xA5000000);
        d.first();
        d.text(text);
        return d;
    }

    /** The same with no word free and no field left. */
    private static Driver full(String text) {
        Driver d = some("");
        for (int i = 0; i < 3; i++) {
            d.field((char) ('d' + i), 9 + i, 1, true);
        }
        while (!d.insert().equals(Check.ELEMENT)) {
            continue;
        }
        d.text(text);
        return d;
    }

    /** All that the object can be asked for, the calls that change something last. */
    private static String all(Driver d) {
        StringBuilder s = new StringBuilder("responds ").append(d.responders());
        for (int word : SOME_WORDS) {
            s.append(" bits ").append(Integer.toHexString(d.bits(word)));
        }
        for (char name = 'a'; name <= 'h'; name++) {
            s.append(" values ").append(d.get(0, name)).append(' ').append(d.get(3, name)).append(' ').append(d.get(2, name));
        }
        s.append(" refused ").append(d.refused()).append(" listed ").append(d.list());
        d.text("unt");
        s.append(" run ").append(d.run()).append(" text ").append(d.wipe());
        s.append(" insert ").append(d.insert()).append(" field ").append(d.field('g', 12, 2, false));
        return s.toString();
    }

    private static void unchanged(String what, String want, Function<String, Driver> make, String text, Function<Driver, String> call) {
        Driver with = make.apply(text);
        Driver without = make.apply(text);
        Check.due(what, want, call.apply(with));
        Check.due(what + " changes nothing", all(without), all(with));
    }

    /** Calls other than run() leave place() too. */
    private static void calls(String what, String want, Function<Driver, String> call) {
        unchanged(what, want, UnchangedTest::some, "co", call);
        Driver d = some("");
        call.apply(d);
        Check.due(what + " leaves place()", "5", d.place());
    }

    private static void callsOnFull(String what, String want, Function<Driver, String> call) {
        unchanged(what, want, UnchangedTest::full, "co", call);
    }

    private static void field() {
        calls("field: no letter", Check.ARGUMENT, d -> d.field('{', 9, 1, false));
        calls("field: a name that one has", Check.ARGUMENT, d -> d.field('a', 9, 1, false));
        calls("field: first too small", Check.ARGUMENT, d -> d.field('d', -1, 1, false));
        calls("field: first too large", Check.ARGUMENT, d -> d.field('d', 24, 1, false));
        calls("field: width too small", Check.ARGUMENT, d -> d.field('d', 9, 0, false));
        calls("field: width too large", Check.ARGUMENT, d -> d.field('d', 9, 11, false));
        calls("field: on bit 24", Check.ARGUMENT, d -> d.field('d', 20, 5, false));
        calls("field: on another", Check.ARGUMENT, d -> d.field('d', 9, 6, false));
        callsOnFull("field: a seventh", Check.STATE, d -> d.field('g', 12, 2, false));
        callsOnFull("field: a seventh and wrong", Check.ARGUMENT, d -> d.field('g', 11, 2, false));
    }

    private static void insert() {
        callsOnFull("insert: none is free", Check.ELEMENT, d -> d.insert());
    }

    private static void remove() {
        for (int word : new int[] {-1, 32, 33, Integer.MIN_VALUE, Integer.MAX_VALUE}) {
            calls("remove: no word " + word, Check.ARGUMENT, d -> d.remove(word));
        }
        for (int word : new int[] {2, 4, 31}) {
            calls("remove: a free word " + word, Check.ELEMENT, d -> d.remove(word));
        }
    }

    private static void put() {
        for (int word : new int[] {-1, 32, 33, Integer.MIN_VALUE}) {
            calls("put: no word " + word, Check.ARGUMENT, d -> d.put(word, 'a', 1));
        }
        calls("put: no field", Check.ARGUMENT, d -> d.put(0, 'd', 1));
        calls("put: a free word", Check.ELEMENT, d -> d.put(2, 'a', 1));
        for (int v : new int[] {-1, 16, 17, 1 << 16, Integer.MIN_VALUE, Integer.MAX_VALUE}) {
            calls("put: does not fit a: " + v, Check.STATE, d -> d.put(0, 'a', v));
        }
        for (int v : new int[] {-513, 512, 1024, Integer.MIN_VALUE, Integer.MAX_VALUE}) {
            calls("put: does not fit c: " + v, Check.STATE, d -> d.put(3, 'c', v));
        }
    }

    private static void get() {
        calls("get: no word", Check.ARGUMENT, d -> d.get(32, 'a'));
        calls("get: no field", Check.ARGUMENT, d -> d.get(0, 'd'));
        calls("get: a free word", Check.ELEMENT, d -> d.get(2, 'a'));
    }

    private static void bit() {
        calls("bit: no word", Check.ARGUMENT, d -> d.bit(32, 0));
        calls("bit: no bit", Check.ARGUMENT, d -> d.bit(0, 32));
    }

    private static void multi() {
        for (int k = 0; k < 24; k++) {
            int mask = Driver.WORK | 1 << k;
            calls("multi: bit " + k, Check.ARGUMENT, d -> d.multi(mask, -1));
        }
        calls("multi: all bits", Check.ARGUMENT, d -> d.multi(-1, 0));
    }

    private static void responds() {
        calls("responds: no word", Check.ARGUMENT, d -> d.responds(32));
        calls("responds: no word", Check.ARGUMENT, d -> d.responds(-1));
    }

    private static void listed() {
        for (int i : new int[] {-1, 3, 32, Integer.MIN_VALUE, Integer.MAX_VALUE}) {
            calls("listed: none at " + i, Check.INDEX, d -> d.listed(i));
        }
    }

    private static void runOfNoStatement() {
        for (String text : new String[] {"", "co", "  ", "set a = 1,", "set a = 1, b = 2 + 3,", "set a = 99, b = 1 c", "list a a", "list b,", "max a +",
                "count count", "where a = 1 set b = 1 )", "where a > 0 set a = 0 + 0 + 0", "where a > 0 list c 1234", "where a > 0 list c #",
                "where a > 0 count 1", "where a > 0", "where !!!!!!!!!a > 0 set a = 0", "max d", "where 1 = 2 max a a"}) {
            unchanged("run: |" + text + "|", Check.ARGUMENT, UnchangedTest::some, text, d -> d.run());
            unchanged("run: |" + text + "| twice", Check.ARGUMENT, UnchangedTest::some, text, d -> d.run().equals(d.run()) ? Check.ARGUMENT : "no");
        }
    }

    private static void runOfMaxAndMin() {
        for (String text : new String[] {"where 1 = 2 max a", "where 1 = 2 min a", "where a = 0 max c", "where a < 0 | b > 15 min b"}) {
            unchanged("run: |" + text + "|", Check.ELEMENT, UnchangedTest::some, text, d -> d.run());
            Driver d = some(text);
            d.run();
            Check.due("run: |" + text + "| was a statement", "-1", d.place());
        }
    }

    private static void writeThatIsFalse() {
        calls("write: a wrong character", "false", d -> d.write(Driver.pack("count") | 31L << 56));
        calls("write: a wrong character first", "false", d -> d.write(Driver.pack("\u007fcount")));
        unchanged("write: too many", "false", UnchangedTest::some, " ".repeat(93) + "co", d -> d.write(Driver.pack("unt   ")));
    }
}
