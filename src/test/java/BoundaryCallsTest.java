/** The boundary cases that promises 1 to 13 name, each on both sides; a name begins with the promise's number. */
public final class BoundaryCallsTest {
    private static final int WORK = Driver.WORK;

    public static void main(String[] args) {
        newObject();
        fieldNames();
        fieldGround();
        insertUntilNoneIsFree();
        insertGivesAnEmptyWord();
        remove();
        put();
        get();
        bit();
        searchEachBit();
        searchAmong();
        multiEachBit();
        multiWhoResponds();
        responds();
        first();
        writeEachPlace();
        writeLengths();
        writeNothing();
        wipe();
        Check.end();
    }

    private static void due(String what, Object want, Object got) {
        Check.due(what, want, got);
    }

    /** Fields u, v, w on all 24 bits, unsigned, so that each bit can be put. */
    private static Driver covered(int words) {
        Driver d = new Driver();
        d.field('u', 0, 10, false);
        d.field('v', 10, 10, false);
        d.field('w', 20, 4, false);
        for (int i = 0; i < words; i++) {
            d.insert();
        }
        return d;
    }

    /** In a word that alone responds any bit can be made 1. */
    private static void makeOne(Driver d, int word, int k) {
        if (k < 24) {
            d.put(word, k < 10 ? 'u' : k < 20 ? 'v' : 'w', 1 << k % 10);
        } else {
            d.multi(1 << k, -1);
        }
    }

    private static void newObject() {
        Driver d = new Driver();
        for (int word = 0; word < 32; word++) {
            due("1 all words are free: " + word, Check.ELEMENT, d.remove(word));
            due("1 none responds: " + word, "false", d.responds(word));
            due("1 all bits 0: " + word, 0, new Driver().bits(word));
        }
        due("1 none in use", "0", d.search(0, 0, false));
        for (char name = 'a'; name <= 'z'; name++) {
            due("1 no fields: " + name, Check.ARGUMENT, d.get(0, name));
            due("1 no fields, so it can be made: " + name, Check.OK, new Driver().field(name, 0, 1, false));
        }
        due("1 no text", "0", d.wipe());
        due("1 the first word", "0", d.insert());
        Driver other = Driver.table(32);
        other.text("count");
        other.search(0, 0, false);
        Driver later = new Driver();
        due("1 no words of another object", "0", later.search(0, 0, false));
        due("1 no fields of another object", Check.ARGUMENT, later.get(0, 'a'));
        due("1 no text of another object", "0", later.wipe());
        due("1 the other one keeps it", "32", other.run());
    }

    private static void fieldNames() {
        for (int code = 0; code < 400; code++) {
            boolean good = code >= 'a' && code <= 'z';
            Driver d = new Driver();
            due("2 the name is a small letter: " + code, good ? Check.OK : Check.ARGUMENT, d.field((char) code, 3, 2, false));
            d.insert();
            due("2 made: " + code, good ? "0" : Check.ARGUMENT, d.get(0, (char) code));
            due("2 a field has it: " + code, Check.ARGUMENT, d.field((char) code, 10, 2, true));
        }
        for (int code : new int[] {0xFF41, 0xFFFF, 0x8000, 'a' + 0x100, 'z' + 0xFF00}) {
            due("2 the name is a small letter: " + code, Check.ARGUMENT, new Driver().field((char) code, 3, 2, false));
        }
        Driver d = new Driver();
        d.field('a', 0, 1, false);
        d.field('b', 1, 1, false);
        due("2 the first one has it", Check.ARGUMENT, d.field('a', 2, 1, false));
        due("2 the latest one has it", Check.ARGUMENT, d.field('b', 2, 1, false));
        due("2 none has it", Check.OK, d.field('c', 2, 1, false));
    }

    private static void fieldGround() {
        for (int first = -2; first <= 26; first++) {
            boolean good = first >= 0 && first <= 23;
            due("2 first is 0 .. 23: " + first, good ? Check.OK : Check.ARGUMENT, new Driver().field('f', first, 1, false));
        }
        for (int first = 0; first <= 23; first++) {
            for (int width = 0; width <= 11; width++) {
                boolean good = width >= 1 && width <= 10 && first + width - 1 < 24;
                due("2 from " + first + " with " + width, good ? Check.OK : Check.ARGUMENT, new Driver().field('f', first, width, true));
            }
        }
        Driver d = Driver.table(1);
        d.put(0, 'a', 15);
        d.search(0, 0, false);
        due("2 a field when words are in use", Check.OK, d.field('d', 9, 5, true));
        due("2 leaves the bits", 15, d.bits(0));
        due("2 leaves who responds", "0 ", d.responders());
        due("2 is 0 at first", "0", d.get(0, 'd'));
    }

    private static void insertUntilNoneIsFree() {
        Driver d = Driver.table(0);
        for (int word = 0; word < 32; word++) {
            due("3 the lowest free word", String.valueOf(word), d.insert());
        }
        due("3 none is free", Check.ELEMENT, d.insert());
        due("3 none is free, again", Check.ELEMENT, d.insert());
        d.remove(31);
        due("3 the last word", "31", d.insert());
        due("3 none is free", Check.ELEMENT, d.insert());
        d.remove(20);
        d.remove(0);
        d.remove(7);
        due("3 the lowest of three", "0", d.insert());
        due("3 the lowest of two", "7", d.insert());
        due("3 the only one", "20", d.insert());
        due("3 none is free", Check.ELEMENT, d.insert());
        due("3 all are in use", "32", d.search(0, 0, false));
    }

    private static void insertGivesAnEmptyWord() {
        for (int word : new int[] {0, 2}) {
            Driver d = covered(3);
            d.tell("set u = 999 + 24, v = 999 + 24");
            d.multi(WORK, -1);
            d.remove(word);
            due("3 in use", String.valueOf(word), d.insert());
            due("3 its bits 0", 0, d.bits(word));
            due("3 does not respond", "false", d.responds(word));
            due("3 the next one does", "true", d.responds(1));
            due("3 the next one's bits", WORK | 0xFFFFF, d.bits(1));
            due("3 it can be searched", "1", d.search(-1, 0, false));
            due("3 and responds then", "true", d.responds(word));
        }
    }

    private static void remove() {
        for (int word : new int[] {0, 31}) {
            Driver d = covered(32);
            due("4 in use", Check.OK, d.put(word, 'u', 1023));
            d.search(0, 0, false);
            d.multi(WORK, -1);
            due("4 remove", Check.OK, d.remove(word));
            due("4 its bits are 0", 0, d.bits(word));
            due("4 does not respond", "false", d.responds(word));
            due("4 it is free", Check.ELEMENT, d.remove(word));
            due("4 no value", Check.ELEMENT, d.get(word, 'u'));
            due("4 nothing to put", Check.ELEMENT, d.put(word, 'u', 1));
            due("4 still free", Check.ELEMENT, d.remove(word));
            due("4 the others still respond", "31", d.search(WORK, -1, true));
            due("4 in use again", String.valueOf(word), d.insert());
            due("4 removed again", Check.OK, d.remove(word));
        }
        Driver none = new Driver();
        for (int word : new int[] {0, 31}) {
            due("4 never in use", Check.ELEMENT, none.remove(word));
        }
        for (int word : new int[] {-1, 32, 64, Integer.MIN_VALUE, Integer.MAX_VALUE}) {
            due("4 no such word, none in use: " + word, Check.ARGUMENT, none.remove(word));
        }
    }

    private static void put() {
        Driver d = covered(2);
        d.put(1, 'u', 1023);
        d.put(1, 'v', 1023);
        d.put(1, 'w', 15);
        d.search(0, 0, false);
        d.multi(WORK, -1);
        due("5 the least", Check.OK, d.put(1, 'v', 0));
        due("5 no other bit", 0xFFF003FF, d.bits(1));
        due("5 the greatest", Check.OK, d.put(1, 'v', 1023));
        due("5 all bits", -1, d.bits(1));
        due("5 one more does not fit", Check.STATE, d.put(1, 'v', 1024));
        due("5 one less does not fit", Check.STATE, d.put(1, 'v', -1));
        due("5 it stays", "1023", d.get(1, 'v'));
        due("5 who responds stays", "0 1 ", d.responders());
        due("5 no other word", WORK, d.bits(0));
        for (int code : new int[] {'t', 'x', 'U', 0, 'u' + 256, 0xFFFF}) {
            due("5 no such field: " + code, Check.ARGUMENT, d.put(1, (char) code, 1));
        }
        due("5 a free word", Check.ELEMENT, d.put(2, 'u', 1));
        due("5 nothing was put", 0, d.bits(2));
    }

    private static void get() {
        Driver d = Driver.table(1);
        d.search(0, 0, false);
        d.multi(WORK, -1);
        for (int v : new int[] {-512, -511, -1, 0, 1, 510, 511}) {
            d.put(0, 'c', v);
            due("6 beside the work bits", String.valueOf(v), d.get(0, 'c'));
        }
        for (int v : new int[] {-16, -15, -1, 0, 1, 14, 15}) {
            d.put(0, 'b', v);
            due("6 signed", String.valueOf(v), d.get(0, 'b'));
            due("6 the one below", "0", d.get(0, 'a'));
            due("6 the one above", "511", d.get(0, 'c'));
        }
        for (int v : new int[] {0, 1, 7, 8, 14, 15}) {
            d.put(0, 'a', v);
            due("6 unsigned", String.valueOf(v), d.get(0, 'a'));
        }
        for (int code : new int[] {'d', 'z', 'A', 0, 'a' + 256, 0xFFFF}) {
            due("6 no such field: " + code, Check.ARGUMENT, d.get(0, (char) code));
        }
        due("6 a free word", Check.ELEMENT, d.get(1, 'a'));
        d.remove(0);
        due("6 free now", Check.ELEMENT, d.get(0, 'a'));
        d.insert();
        due("6 in use again", "0", d.get(0, 'a'));
    }

    private static void bit() {
        for (int k = 0; k < 32; k++) {
            Driver d = covered(2);
            d.search(0, 0, false);
            d.first();
            makeOne(d, 1, k);
            due("7 only bit " + k, 1 << k, d.bits(1));
            due("7 of that word", 0, d.bits(0));
            due("7 of a free word", "false", d.bit(2, k));
        }
        for (int k : new int[] {-1, 32, 33, 63, 64, Integer.MIN_VALUE, Integer.MAX_VALUE}) {
            due("7 no bit " + k, Check.ARGUMENT, covered(1).bit(0, k));
        }
        due("7 no word, no bit", Check.ARGUMENT, covered(1).bit(32, 32));
        due("7 the last bit of the last word", "false", new Driver().bit(31, 31));
    }

    private static void searchEachBit() {
        for (int k = 0; k < 32; k++) {
            Driver d = covered(3);
            d.search(0, 0, false);
            d.first();
            d.search(0, 0, true);
            d.first();
            makeOne(d, 2, k);
            int one = 1 << k;
            due("8 bit " + k + " is 1", "1", d.search(one, one, false));
            due("8 it alone", "2 ", d.responders());
            due("8 bit " + k + " is 0", "2", d.search(one, 0, false));
            due("8 the others", "0 1 ", d.responders());
            due("8 bit " + k + " is 0, the pattern is 1 elsewhere", "2", d.search(one, ~one, false));
            due("8 bit " + k + " is 1, the pattern is 1 everywhere", "1", d.search(one, -1, false));
            due("8 all bits", "1", d.search(-1, one, false));
            due("8 all bits 0", "2", d.search(-1, 0, false));
            due("8 all bits but " + k, "3", d.search(~one, 0, false));
            due("8 an empty mask", "3", d.search(0, one, false));
        }
    }

    private static void searchAmong() {
        Driver d = covered(32);
        for (int word = 0; word < 32; word++) {
            d.put(word, 'u', word);
        }
        due("8 among none", "0", d.search(0, 0, true));
        due("8 all", "32", d.search(0, 0, false));
        due("8 among all", "16", d.search(1, 1, true));
        due("8 among half", "8", d.search(2, 2, true));
        due("8 the last word", "true", d.responds(31));
        due("8 not one that did not respond", "false", d.responds(30));
        due("8 not one that differs", "false", d.responds(29));
        due("8 among a quarter, an empty mask", "8", d.search(0, -1, true));
        due("8 among a quarter, none", "0", d.search(1, 0, true));
        due("8 among none again", "0", d.search(0, 0, true));
        due("8 not among: all again", "16", d.search(1, 0, false));
        due("8 the first word", "true", d.responds(0));
        d.first();
        due("8 among, without the first one", "15", d.search(0, 0, true));
        d.remove(2);
        due("8 among, without a removed one", "14", d.search(0, 0, true));
        d.insert();
        due("8 among, not one that was inserted", "14", d.search(0, 0, true));
        due("8 all in use", "32", d.search(0, 0, false));
    }

    private static void multiEachBit() {
        for (int k = 0; k < 32; k++) {
            Driver d = covered(1);
            d.search(0, 0, false);
            int one = 1 << k;
            String want = k < 24 ? Check.ARGUMENT : Check.OK;
            due("9 the mask has bit " + k, want, d.multi(one, one));
            due("9 it has bit " + k + " beside all work bits", want, d.multi(WORK | one, 0x55000000));
            due("9 what is written", k < 24 ? 0 : 0x55000000, d.bits(0));
            due("9 it has bit " + k + ", the pattern not", want, d.multi(one, ~one));
            due("9 what is left", k < 24 ? 0 : 0x55000000 & ~one, d.bits(0));
            due("9 the pattern has bit " + k + ", the mask not", Check.OK, d.multi(WORK & ~one, one));
            due("9 nothing is left", 0, d.bits(0));
        }
        Driver d = covered(1);
        d.put(0, 'w', 15);
        d.search(0, 0, false);
        due("9 all work bits", Check.OK, d.multi(WORK, -1));
        due("9 no other bit", 0xFFF00000, d.bits(0));
        due("9 an empty mask", Check.OK, d.multi(0, 0));
        due("9 changes nothing", 0xFFF00000, d.bits(0));
        due("9 all bits", Check.ARGUMENT, d.multi(-1, 0));
        due("9 all bits below", Check.ARGUMENT, d.multi(~WORK, 0));
        due("9 changed nothing", 0xFFF00000, d.bits(0));
    }

    private static void multiWhoResponds() {
        Driver d = covered(4);
        due("9 none responds", Check.OK, d.multi(WORK, -1));
        due("9 none is written to", "4", d.search(WORK, 0, false));
        d.first();
        d.remove(2);
        d.multi(1 << 24, -1);
        due("9 those that respond, and still do", "1 3 ", d.responders());
        due("9 those that respond", "2", d.search(1 << 24, -1, false));
        due("9 they are", "1 3 ", d.responders());
        due("9 a free one is not", "false", d.bit(2, 24));
        due("9 illegal when none responds", Check.ARGUMENT, covered(1).multi(1 << 23, 0));
        Driver all = covered(32);
        all.search(0, 0, false);
        all.multi(1 << 31, -1);
        due("9 all words", "32", all.search(1 << 31, -1, false));
    }

    private static void responds() {
        Driver d = covered(32);
        for (int word : new int[] {0, 31}) {
            due("10 at first: " + word, "false", d.responds(word));
        }
        d.search(0, 0, false);
        for (int word : new int[] {0, 31}) {
            due("10 behind a search: " + word, "true", d.responds(word));
            due("10 it still does: " + word, "true", d.responds(word));
        }
        for (int word : new int[] {-1, 32, 63, Integer.MIN_VALUE, Integer.MAX_VALUE}) {
            due("10 no word: " + word, Check.ARGUMENT, d.responds(word));
        }
    }

    private static void first() {
        Driver none = new Driver();
        due("11 none is in use", "-1", none.first());
        Driver d = covered(32);
        due("11 none does", "-1", d.first());
        d.put(0, 'u', 1);
        d.put(31, 'u', 1);
        d.search(1, 1, false);
        due("11 the first word", "0", d.first());
        due("11 it does not any more", "false", d.responds(0));
        due("11 another one still does", "true", d.responds(31));
        due("11 the last word", "31", d.first());
        due("11 it does not any more", "false", d.responds(31));
        due("11 none does any more", "-1", d.first());
        due("11 again", "-1", d.first());
        due("11 they are still in use", "2", d.search(1, 1, false));
        for (int n = 0; n < 3; n++) {
            d.search(0, 0, false);
            for (int word = 0; word <= n; word++) {
                due("11 one after another", String.valueOf(word), d.first());
            }
            due("11 the rest still does", String.valueOf(31 - n), d.search(0, 0, true));
        }
    }

    private static void writeEachPlace() {
        for (int at = 0; at < 8; at++) {
            for (int code : new int[] {1, 31, 32, 126, 127, 128, 160, 255}) {
                boolean good = code == 32 || code == 126;
                long alone = (long) code << 8 * at;
                Driver d = new Driver();
                due("12 code " + code + " alone, byte " + at, String.valueOf(good), d.write(alone));
                due("12 what it added", good ? "1" : "0", d.wipe());
                long amongA = Driver.pack("aaaaaaaa") & ~(255L << 8 * at) | alone;
                due("12 code " + code + " among others, byte " + at, String.valueOf(good), d.write(amongA));
                due("12 what it added", good ? "8" : "0", d.wipe());
            }
            Driver d = Driver.table(2);
            d.write(Driver.pack("   count") & ~(255L << 8 * (at < 3 ? at : 0)));
            due("12 a byte that is 0 counts not", "2", d.run());
        }
        Driver d = Driver.table(2);
        due("12 from the lowest on", "true", d.write(Driver.pack("count")));
        due("12 in that order", "2", d.run());
        due("12 bytes 0 between", "true", d.write(0x0074_006E_0075_006FL << 8 | 'c'));
        due("12 in that order", "2", d.run());
        due("12 up to the highest", "true", d.write(Driver.pack("count") << 24));
        due("12 in that order", "2", d.run());
        d.write(Driver.pack("tnuoc"));
        due("12 and no other", Check.ARGUMENT, d.run());
    }

    private static void writeLengths() {
        for (int had = 92; had <= 100; had++) {
            for (int more = 0; more <= 8; more++) {
                Driver d = new Driver();
                d.text(" ".repeat(had));
                boolean good = had + more <= 100;
                due("12 " + more + " behind " + had, String.valueOf(good), d.write(Driver.pack("abcdefgh".substring(0, more))));
                due("12 the length then", String.valueOf(good ? had + more : had), d.wipe());
            }
        }
        Driver d = Driver.table(1);
        d.text(" ".repeat(95));
        due("12 too many: adds nothing", "false", d.write(Driver.pack("xyzxyz")));
        due("12 as many as there is room for", "true", d.write(Driver.pack("count")));
        due("12 nothing else was added", "1", d.run());
        due("12 room again", "true", d.write(Driver.pack("count")));
        due("12 a wrong one: adds nothing", "false", d.write(Driver.pack("xyz") | 127L << 56));
        due("12 nothing else was added", "1", d.run());
    }

    private static void writeNothing() {
        Driver d = new Driver();
        due("12 no character", "true", d.write(0));
        due("12 none was added", "0", d.wipe());
        d.text("a".repeat(100));
        due("12 no character behind 100", "true", d.write(0));
        due("12 a wrong one behind 100", "false", d.write(31));
        due("12 a right one behind 100", "false", d.write(32));
        due("12 still 100", "100", d.wipe());
        due("12 all bits 1", "false", d.write(-1));
        due("12 the lowest long", "false", d.write(Long.MIN_VALUE));
        due("12 the highest long", "false", d.write(Long.MAX_VALUE));
        due("12 none was added", "0", d.wipe());
    }

    private static void wipe() {
        for (int length : new int[] {0, 1, 7, 8, 9, 99, 100}) {
            Driver d = Driver.table(1);
            d.text(" ".repeat(length));
            due("13 how many it had", String.valueOf(length), d.wipe());
            due("13 empty", "0", d.wipe());
            due("13 no statement", Check.ARGUMENT, d.run());
            due("13 from the beginning", "0", d.place());
            d.text(" ".repeat(95) + "count");
            due("13 room for 100", "1", d.run());
        }
        Driver d = Driver.table(2);
        d.search(0, 0, false);
        d.multi(WORK, -1);
        d.text("max q");
        d.run();
        due("13 as many as before", "5", d.wipe());
        due("13 leaves the place", "4", d.place());
        due("13 leaves who responds", "0 1 ", d.responders());
        due("13 leaves the bits", WORK, d.bits(1));
    }
}
