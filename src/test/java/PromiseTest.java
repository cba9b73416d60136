/** Each promise by itself: ordinary inputs, the edges that the document names, wrong inputs. */
public final class PromiseTest {
    private static final String OK = Check.OK;
    private static final String ARGUMENT = Check.ARGUMENT;
    private static final String STATE = Check.STATE;
    private static final String ELEMENT = Check.ELEMENT;
    private static final String INDEX = Check.INDEX;
    private static final int WORK = Driver.WORK;

    public static void main(String[] args) {
        newObject();
        field();
        fieldLimits();
        insert();
        remove();
        put();
        get();
        bit();
        search();
        multi();
        responds();
        first();
        write();
        wipe();
        runConditions();
        runAnswers();
        runSet();
        runAfter();
        runThrows();
        placeOfStarts();
        placeOfConditions();
        placeOfActions();
        placeOverTime();
        refused();
        listed();
        Check.end();
    }

    private static void due(String what, Object want, Object got) {
        Check.due(what, want, got);
    }

    private static void newObject() {
        for (int word = 0; word < 32; word++) {
            due("1 bits of " + word, 0, new Driver().bits(word));
        }
        Driver d = new Driver();
        for (int word = 0; word < 32; word++) {
            due("1 free " + word, ELEMENT, d.remove(word));
        }
        due("1 none in use", "0", d.search(0, 0, false));
        due("1 responders", "", d.responders());
        for (char name = 'a'; name <= 'z'; name++) {
            due("1 no field " + name, ARGUMENT, d.get(0, name));
        }
        due("1 text", "0", d.wipe());
        due("1 place", "-1", d.place());
        due("1 refused", "0", d.refused());
        due("1 listed", INDEX, d.listed(0));
        Driver other = Driver.table(1);
        other.tell("list a");
        due("1 two objects share nothing", INDEX, d.listed(0));
        due("1 nor fields", ARGUMENT, d.get(0, 'a'));
    }

    private static void field() {
        Driver d = new Driver();
        due("2 ordinary", OK, d.field('m', 5, 3, false));
        for (char name : new char[] {'`', '{', 'A', 'Z', '0', ' ', 0, 'm' + 256, 0xFFFF}) {
            due("2 name " + (int) name, ARGUMENT, d.field(name, 10, 2, false));
        }
        due("2 name is had", ARGUMENT, d.field('m', 10, 2, false));
        for (int first : new int[] {-1, 24, 25, 32, 37, Integer.MIN_VALUE, Integer.MAX_VALUE}) {
            due("2 first " + first, ARGUMENT, d.field('n', first, 1, false));
        }
        for (int width : new int[] {0, -1, 11, 32, Integer.MIN_VALUE, Integer.MAX_VALUE}) {
            due("2 width " + width, ARGUMENT, d.field('n', 10, width, false));
        }
        due("2 up to bit 24", ARGUMENT, d.field('n', 15, 10, false));
        due("2 on bit 24", ARGUMENT, d.field('n', 23, 2, false));
        due("2 last bit in another", ARGUMENT, d.field('n', 3, 3, false));
        due("2 first bit in another", ARGUMENT, d.field('n', 7, 2, false));
        due("2 round another", ARGUMENT, d.field('n', 4, 5, true));
        due("2 within another", ARGUMENT, d.field('n', 6, 1, true));
        due("2 just below another", OK, d.field('n', 3, 2, false));
        due("2 just above another", OK, d.field('z', 8, 1, false));
        due("2 up to bit 23", OK, d.field('a', 14, 10, true));
        due("2 at bit 0", OK, d.field('b', 0, 1, true));
        d.insert();
        d.put(0, 'a', -1);
        due("2 lies on its bits", 0x00FFC000, d.bits(0));
        d.put(0, 'z', 1);
        due("2 lies on its bit", 0x00FFC100, d.bits(0));
    }

    private static void fieldLimits() {
        Driver d = new Driver();
        for (int i = 0; i < 6; i++) {
            due("2 field " + i, OK, d.field((char) ('a' + i), i, 1, false));
        }
        due("2 a seventh", STATE, d.field('g', 6, 1, false));
        due("2 a seventh once more", STATE, d.field('g', 6, 10, true));
        due("2 seventh, name had", ARGUMENT, d.field('a', 6, 1, false));
        due("2 seventh, no letter", ARGUMENT, d.field('G', 6, 1, false));
        due("2 seventh, on another", ARGUMENT, d.field('g', 5, 1, false));
        due("2 seventh, first", ARGUMENT, d.field('g', 24, 1, false));
        due("2 seventh, width", ARGUMENT, d.field('g', 6, 11, false));
        d.insert();
        due("2 no seventh", ARGUMENT, d.get(0, 'g'));
    }

    private static void insert() {
        Driver d = Driver.table(0);
        for (int word = 0; word < 32; word++) {
            due("3 word", String.valueOf(word), d.insert());
        }
        due("3 none is free", ELEMENT, d.insert());
        d.put(7, 'a', 9);
        d.search(0, 0, false);
        d.multi(WORK, -1);
        d.remove(30);
        d.remove(7);
        due("3 lowest free", "7", d.insert());
        due("3 its bits", 0, d.bits(7));
        due("3 does not respond", "false", d.responds(7));
        due("3 others still do", "true", d.responds(8));
        due("3 next free", "30", d.insert());
        due("3 none again", ELEMENT, d.insert());
    }

    private static void remove() {
        Driver d = Driver.table(3);
        d.put(1, 'b', -1);
        d.search(0, 0, false);
        d.multi(WORK, -1);
        due("4 remove", OK, d.remove(1));
        due("4 bits", 0, d.bits(1));
        due("4 responders", "0 2 ", d.responders());
        due("4 is free", ELEMENT, d.remove(1));
        due("4 get of a free word", ELEMENT, d.get(1, 'b'));
        due("4 never in use", ELEMENT, d.remove(31));
        for (int word : new int[] {-1, 32, 33, Integer.MIN_VALUE, Integer.MAX_VALUE}) {
            due("4 word " + word, ARGUMENT, d.remove(word));
        }
        due("4 the others stay", "2", d.search(0, 0, false));
        due("4 and their bits", WORK, d.bits(0));
    }

    private static void put() {
        Driver d = Driver.table(2);
        due("5 greatest unsigned", OK, d.put(0, 'a', 15));
        due("5 too great", STATE, d.put(0, 'a', 16));
        due("5 below nothing", STATE, d.put(0, 'a', -1));
        due("5 stays", "15", d.get(0, 'a'));
        due("5 least signed", OK, d.put(0, 'b', -16));
        due("5 its bits", 0x10F, d.bits(0));
        due("5 too small", STATE, d.put(0, 'b', -17));
        due("5 greatest signed", OK, d.put(0, 'b', 15));
        due("5 too great signed", STATE, d.put(0, 'b', 16));
        due("5 wide", OK, d.put(0, 'c', -512));
        due("5 wide, too small", STATE, d.put(0, 'c', -513));
        due("5 extremes", STATE, d.put(0, 'c', Integer.MIN_VALUE));
        due("5 extremes", STATE, d.put(0, 'c', Integer.MAX_VALUE));
        due("5 wraps to one that fits", STATE, d.put(0, 'c', 1 << 10));
        due("5 all bits", 0x8000FF, d.bits(0));
        due("5 other word", 0, d.bits(1));
        due("5 free word", ELEMENT, d.put(2, 'a', 1));
        due("5 free word, does not fit", ELEMENT, d.put(2, 'a', 99));
        due("5 free word, no field", ARGUMENT, d.put(2, 'z', 1));
        due("5 no field", ARGUMENT, d.put(0, 'z', 99));
        due("5 no letter", ARGUMENT, d.put(0, 'A', 1));
        due("5 no word", ARGUMENT, d.put(32, 'a', 99));
        due("5 no word", ARGUMENT, d.put(-1, 'a', 1));
        d.search(0, 0, false);
        d.put(1, 'a', 4);
        due("5 who responds stays", "0 1 ", d.responders());
        widthOne();
    }

    private static void widthOne() {
        Driver d = new Driver();
        d.field('s', 23, 1, true);
        d.field('u', 0, 1, false);
        d.insert();
        due("5 one bit, signed, 1", STATE, d.put(0, 's', 1));
        due("5 one bit, signed, -1", OK, d.put(0, 's', -1));
        due("5 one bit, signed, -2", STATE, d.put(0, 's', -2));
        due("5 one bit, unsigned, 1", OK, d.put(0, 'u', 1));
        due("5 one bit, unsigned, 2", STATE, d.put(0, 'u', 2));
        due("5 one bit, unsigned, -1", STATE, d.put(0, 'u', -1));
        due("6 one bit, signed", "-1", d.get(0, 's'));
        due("6 one bit, unsigned", "1", d.get(0, 'u'));
        due("5 one bit, signed, 0", OK, d.put(0, 's', 0));
        due("6 one bit, signed, 0", "0", d.get(0, 's'));
    }

    private static void get() {
        Driver d = Driver.table(2);
        due("6 new", "0", d.get(1, 'b'));
        for (int v = -16; v < 16; v++) {
            d.put(1, 'b', v);
            due("6 signed", String.valueOf(v), d.get(1, 'b'));
        }
        for (int v = 0; v < 16; v++) {
            d.put(1, 'a', v);
            due("6 unsigned", String.valueOf(v), d.get(1, 'a'));
        }
        due("6 neighbours stay", "15", d.get(1, 'b'));
        due("6 free", ELEMENT, d.get(2, 'a'));
        due("6 free, no field", ARGUMENT, d.get(2, 'd'));
        due("6 no field", ARGUMENT, d.get(0, 'd'));
        due("6 no word", ARGUMENT, d.get(32, 'a'));
        due("6 no word", ARGUMENT, d.get(-1, 'a'));
        d.search(0, 0, false);
        d.multi(WORK, -1);
        d.put(0, 'c', 511);
        due("6 work bits are in no field", "511", d.get(0, 'c'));
    }

    private static void bit() {
        Driver d = Driver.table(2);
        d.put(1, 'b', 5);
        due("7 bit 4", "true", d.bit(1, 4));
        due("7 bit 5", "false", d.bit(1, 5));
        due("7 bit 6", "true", d.bit(1, 6));
        due("7 other word", "false", d.bit(0, 4));
        due("7 a free word", "false", d.bit(31, 31));
        due("7 no bit", ARGUMENT, d.bit(0, 32));
        due("7 no bit", ARGUMENT, d.bit(0, -1));
        due("7 no bit that would wrap", ARGUMENT, d.bit(1, 36));
        due("7 no word", ARGUMENT, d.bit(32, 0));
        due("7 no word", ARGUMENT, d.bit(-1, 0));
        d.search(0, 0, false);
        d.multi(WORK, 0x80000000);
        due("7 bit 31", "true", d.bit(0, 31));
        due("7 bit 30", "false", d.bit(0, 30));
    }

    private static void search() {
        Driver d = Driver.table(4);
        for (int word = 0; word < 4; word++) {
            d.put(word, 'a', word + 4);
        }
        due("8 all in use", "4", d.search(0, -1, false));
        due("8 none of the free", "0 1 2 3 ", d.responders());
        due("8 one bit", "2", d.search(1, 1, false));
        due("8 those", "1 3 ", d.responders());
        due("8 not among all", "2", d.search(1, 0, false));
        due("8 those", "0 2 ", d.responders());
        due("8 among", "1", d.search(2, 2, true));
        due("8 those", "2 ", d.responders());
        due("8 pattern outside the mask counts not", "1", d.search(2, -1, true));
        due("8 among none left", "0", d.search(1, 1, true));
        due("8 none", "", d.responders());
        due("8 among none", "0", d.search(0, 0, true));
        due("8 all bits", "1", d.search(-1, 7, false));
        due("8 that", "3 ", d.responders());
        d.multi(0x80000000, -1);
        due("8 bit 31", "1", d.search(0x80000000, 0x80000000, false));
        due("8 bit 31 not", "3", d.search(0x80000000, 0, false));
        d.remove(0);
        due("8 removed among", "2", d.search(0, 0, true));
    }

    private static void multi() {
        Driver d = Driver.table(3);
        d.put(1, 'c', -1);
        d.search(0, 0, false);
        d.first();
        due("9 sets", OK, d.multi(0x0F000000, 0x55555555));
        due("9 only those in the mask", 0x05FFC000, d.bits(1));
        due("9 in all that respond", 0x05000000, d.bits(2));
        due("9 not in others", 0, d.bits(0));
        due("9 clears", OK, d.multi(0x81000000, 0x80000000));
        due("9 cleared and set", 0x84000000, d.bits(2));
        due("9 empty mask", OK, d.multi(0, -1));
        due("9 bit 23", ARGUMENT, d.multi(0x00800000, 0));
        due("9 bit 0 beside work bits", ARGUMENT, d.multi(WORK | 1, -1));
        due("9 all", ARGUMENT, d.multi(-1, -1));
        due("9 changed nothing", 0x84000000, d.bits(2));
        d.search(1, 1, false);
        due("9 no word responds", OK, d.multi(WORK, -1));
        due("9 nothing", 0x84000000, d.bits(2));
        due("9 illegal though none responds", ARGUMENT, d.multi(1, 1));
    }

    private static void responds() {
        Driver d = Driver.table(3);
        due("10 at first", "false", d.responds(0));
        d.search(0, 0, false);
        due("10 in use", "true", d.responds(2));
        due("10 free", "false", d.responds(3));
        due("10 does not change it", "true", d.responds(2));
        d.remove(2);
        due("10 removed", "false", d.responds(2));
        d.insert();
        due("10 inserted again", "false", d.responds(2));
        due("10 no word", ARGUMENT, d.responds(32));
        due("10 no word", ARGUMENT, d.responds(-1));
        due("10 no word", ARGUMENT, d.responds(Integer.MIN_VALUE));
    }

    private static void first() {
        Driver d = Driver.table(32);
        due("11 none", "-1", d.first());
        d.search(0, 0, false);
        for (int word = 0; word < 32; word++) {
            due("11 lowest", String.valueOf(word), d.first());
            due("11 not any more", "false", d.responds(word));
        }
        due("11 none left", "-1", d.first());
        due("11 still in use", "32", d.search(0, 0, false));
        d.remove(0);
        due("11 a free one does not", "1", d.first());
    }

    private static void write() {
        Driver d = new Driver();
        due("12 nothing", "true", d.write(0));
        due("12 nothing added", "0", d.wipe());
        due("12 zeros between", "true", d.write(0x7400_6E00_7500_6F63L));
        due("12 five", "true", d.write(0));
        due("12 order and gaps", "0", d.run());
        due("12 lowest code", "true", d.write(32));
        due("12 highest code", "true", d.write(126L << 56));
        for (int code : new int[] {1, 9, 10, 31, 127, 128, 160, 255}) {
            due("12 code " + code, "false", d.write(code));
            due("12 code " + code + " behind", "false", d.write(0x61L | (long) code << 56));
        }
        due("12 nothing of them", "2", d.wipe());
        for (int i = 0; i < 12; i++) {
            due("12 eight", "true", d.write(Driver.pack("aaaaaaaa")));
        }
        due("12 would be 101", "false", d.write(Driver.pack("abcde")));
        due("12 would be 100", "true", d.write(Driver.pack("abcd")));
        due("12 full", "false", d.write(' '));
        due("12 nothing more fits", "true", d.write(0));
        due("12 a hundred", "100", d.wipe());
        due("12 room again", "true", d.write(Driver.pack("abcdefgh")));
        due("12 a call in two", "8", d.wipe());
        Driver e = Driver.table(1);
        e.text("co");
        e.text("unt");
        due("12 a token over two calls", "1", e.run());
    }

    private static void wipe() {
        Driver d = new Driver();
        due("13 empty", "0", d.wipe());
        d.text("where a = 1");
        due("13 how many", "11", d.wipe());
        due("13 empty now", "0", d.wipe());
        d.text("count");
        due("13 nothing left of it", "0", d.run());
    }

    private static Driver fourRows() {
        Driver d = Driver.table(4);
        int[][] rows = {{3, -4, 0}, {3, 3, 9}, {0, -16, -9}, {15, 15, 511}};
        for (int word = 0; word < 4; word++) {
            d.put(word, 'a', rows[word][0]);
            d.put(word, 'b', rows[word][1]);
            d.put(word, 'c', rows[word][2]);
        }
        return d;
    }

    private static void runConditions() {
        String[][] cases = {
            {"a = 3", "0 1 "}, {"a < 3", "2 "}, {"a > 3", "3 "}, {"a = b", "1 3 "}, {"b < a", "0 2 "},
            {"3 = a", "0 1 "}, {"3 < a", "3 "}, {"1 < 2", "0 1 2 3 "}, {"2 < 1", ""}, {"2 < 2", ""},
            {"b = -4", "0 "}, {"b > - 5", "0 1 3 "}, {"-9=c", "2 "}, {"c < 999", "0 1 2 3 "},
            {"c > -999", "0 1 2 3 "}, {"c = 009", "1 "}, {"a = -0", "2 "}, {"b > a", ""}, {"c > b", "0 1 2 3 "},
            {"!a = 3", "2 3 "}, {"!!a = 3", "0 1 "}, {"!(a = 3)", "2 3 "}, {"(a = 3)", "0 1 "},
            {"a = 3 & b = 3", "1 "}, {"a = 3 | a = 0", "0 1 2 "},
            {"a = 15 | a = 3 & b = 3", "1 3 "}, {"a = 3 & b = 3 | a = 15", "1 3 "},
            {"(a = 15 | a = 3) & b = 3", "1 "}, {"a = 15 & (a = 3 | b = 15)", "3 "},
            {"!a = 3 & a = 0", "2 "}, {"!(a = 3 & b = 3)", "0 2 3 "}, {"!a = 3 | b = 3", "1 2 3 "},
            {"a=1|a=2|a=0|a=15", "2 3 "}, {"a<9&a>1&b<9&b>0", "1 "},
            {"!(!(a=3)|!(b=3))", "1 "}, {"((((((((a=3))))))))", "0 1 "}, {"!!!!!!!!a=3", "0 1 "},
            {"!(!(!(!(a=3))))", "0 1 "}, {"(!(!(!(!a=3))))&b=3", "1 "},
            {"!!!!!!!!a=3&!!!!!!!!b=3", "1 "}, {"!!!!((((a=3))))|((((!!!!a=0))))", "0 1 2 "},
        };
        for (String[] c : cases) {
            int many = c[1].isEmpty() ? 0 : c[1].split(" ").length;
            Driver d = fourRows();
            due("14 where " + c[0], String.valueOf(many), d.tell("where " + c[0] + " count"));
            due("14 takes " + c[0], c[1], d.responders());
        }
        Driver d = fourRows();
        d.remove(0);
        due("14 only words in use", "2", d.tell("where 1 = 1 & !a = 3 count"));
        due("14 those", "2 3 ", d.responders());
        due("14 free words do not count as 0", "1", d.tell("where a = 0 count"));
    }

    private static void runAnswers() {
        Driver d = Driver.table(5);
        int[] values = {5, -16, 15, 5, -3};
        for (int word = 0; word < 5; word++) {
            d.put(word, 'b', values[word]);
            d.put(word, 'a', word);
        }
        due("14 max", "15", d.tell("max b"));
        due("14 min", "-16", d.tell("min b"));
        due("14 sum", "6", d.tell("sum b"));
        due("14 count", "5", d.tell("count"));
        due("14 list", "5", d.tell("list b"));
        due("14 order", "1 4 0 3 2 ", d.list());
        due("14 max of some", "-3", d.tell("where b < 5 max b"));
        due("14 min of some", "5", d.tell("where b>4 min b"));
        due("14 sum of some", "20", d.tell("where b > 5 | a = 0 sum b"));
        due("14 sum of none", "0", d.tell("where a = 9 sum b"));
        due("14 count of none", "0", d.tell("where a = 9 count"));
        due("14 list of none", "0", d.tell("where a = 9 list b"));
        due("14 no list", "", d.list());
        due("14 set of none", "0", d.tell("where a = 9 set b = 0"));
        due("14 blanks", "5", d.tell("   count   "));
        due("14 no blanks", "1", d.tell("where a=4count"));
        due("14 number beside a word", "1", d.tell("where 4=a&1=1count"));
        due("14 blanks everywhere", "1", d.tell(" where  !  ( a < - 1 | b = 5 )  &  b < - 3 count "));
        for (int word = 5; word < 32; word++) {
            d.insert();
        }
        d.tell("set c = -512");
        due("14 the least value", "-512", d.tell("max c"));
        due("14 the least sum", String.valueOf(-512 * 32), d.tell("sum c"));
        Driver wide = new Driver();
        wide.field('w', 0, 10, false);
        wide.insert();
        wide.put(0, 'w', 1023);
        due("14 the greatest value", "1023", wide.tell("min w"));
        due("14 of an unsigned field", "1", wide.tell("where w > 999 & -1 < w count"));
    }

    private static void runSet() {
        Driver d = Driver.table(3);
        d.put(0, 'a', 3);
        d.put(1, 'a', 9);
        due("14 set number", "3", d.tell("set b = 7"));
        due("14 put there", "7", d.get(2, 'b'));
        due("14 set negative", "3", d.tell("set b = - 16"));
        due("14 put there", "-16", d.get(0, 'b'));
        due("14 set field", "3", d.tell("set b = a"));
        due("14 put there", "9", d.get(1, 'b'));
        due("14 plus", "3", d.tell("set c = a + b"));
        due("14 sum", "18", d.get(1, 'c'));
        due("14 minus", "3", d.tell("set c = 1 - c"));
        due("14 difference", "-17", d.get(1, 'c'));
        due("14 minus a negative", "3", d.tell("set c = -1 - -2"));
        due("14 difference", "1", d.get(1, 'c'));
        due("14 times", "3", d.tell("set c = a * -56"));
        due("14 product", "-504", d.get(1, 'c'));
        due("14 swap", "3", d.tell("set b = 1, c = 2"));
        d.tell("set a = b, b = 5");
        due("14 swap: as before", "3", d.tell("set b = a , a = b"));
        due("14 a", "5", d.get(0, 'a'));
        due("14 b", "1", d.get(0, 'b'));
        due("14 same field: the second", "3", d.tell("set b = 4, b = b + 1"));
        due("14 of before", "2", d.get(0, 'b'));
        d.put(1, 'a', 15);
        due("14 one refuses", "2", d.tell("set b = 9, a = a + 1"));
        due("14 nothing of it changes", "2", d.get(1, 'b'));
        due("14 others do", "9", d.get(0, 'b'));
        due("14 first does not fit", "0", d.tell("set a = 16, b = 0"));
        due("14 nothing", "9", d.get(0, 'b'));
        due("14 first does not fit, same field", "0", d.tell("set a = 16, a = 0"));
        due("14 nothing", "6", d.get(0, 'a'));
        due("14 product beyond the width", "0", d.tell("set c = 32 * 32"));
        due("14 large product", "0", d.tell("set a = 999 * 999"));
        due("14 large negative product", "0", d.tell("set c = -999 * 999"));
        due("14 below nothing", "0", d.tell("set a = 0 - 1"));
        due("14 only those taken", "1", d.tell("where a = 15 set a = 0"));
        due("14 others stay", "6", d.get(0, 'a'));
        due("14 free words stay", 0, d.bits(3));
    }

    private static void runAfter() {
        for (String action : new String[] {"count", "list a", "max a", "min a", "sum a", "set a = a * 4"}) {
            Driver d = Driver.table(4);
            for (int word = 0; word < 4; word++) {
                d.put(word, 'a', word + 1);
            }
            d.search(0, 0, false);
            d.multi(WORK, -1);
            d.tell("where a > 1 " + action);
            due("14 responders after " + action, "1 2 3 ", d.responders());
            for (int word = 0; word < 4; word++) {
                due("14 work bits after " + action, 0, d.bits(word) & WORK);
            }
            due("14 text after " + action, "0", d.wipe());
            due("14 place after " + action, "-1", d.place());
        }
    }

    private static void runThrows() {
        for (String text : new String[] {"where a > 99 max b", "where a > 99 min b", "set a = 1, b = 2,",
                "where a = 0 | a = 9 set a = 1 b", "list a a", "where 1 = 1 list", "", "x"}) {
            Driver d = Driver.table(3);
            d.search(0, 0, false);
            d.first();
            String due = text.startsWith("where a > 99") ? ELEMENT : ARGUMENT;
            due("14 " + text, due, d.tell(text));
            due("14 who responds stays: " + text, "1 2 ", d.responders());
            due("14 again: " + text, due, d.run());
            due("14 the text stays: " + text, String.valueOf(text.length()), d.wipe());
        }
        Driver d = Driver.table(3);
        d.tell("coun");
        d.text("t");
        due("14 a text that stayed, ended", "3", d.run());
        due("14 empty then", ARGUMENT, d.run());
        Driver none = Driver.table(0);
        due("14 max of an empty table", ELEMENT, none.tell("max a"));
        due("14 count of an empty table", "0", none.tell("count"));
        due("14 no statement goes first", ARGUMENT, none.tell("max a ,"));
    }

    private static void place(int want, String text) {
        place(Driver.table(2), want, text);
    }

    private static void place(Driver d, int want, String text) {
        due("14 |" + text + "|", ARGUMENT, d.tell(text));
        due("15 |" + text + "|", String.valueOf(want), d.place());
    }

    private static void placeOfStarts() {
        place(0, "");
        place(3, "   ");
        for (String wrong : new String[] {"a", "wher", "wherea=1 count", "counts", "Count", "1", "(", "-", "=", "~", "1234"}) {
            place(0, wrong);
            place(2, "  " + wrong + " ");
        }
        place(5, "where");
        place(7, "where  ");
        place(6, "where count");
        place(6, "where where a=1 count");
        place(12, "where a = 1 where a = 2 count");
        place(6, "count count");
        place(6, "count ,");
        place(6, "count #");
        place(6, "count 1234");
        place(6, "count where a = 1");
        place(5, "count1");
    }

    private static void placeOfConditions() {
        place(7, "where a");
        place(8, "where a count");
        place(8, "where a + 1 = 2 count");
        place(8, "where a ! = 1 count");
        place(9, "where a <= 1 count");
        place(10, "where a = count");
        place(10, "where a = z count");
        place(10, "where a = bc count");
        place(6, "where d = a count");
        place(11, "where a = 1");
        place(12, "where a = 1 = 1 count");
        place(12, "where a = 1 ) count");
        place(12, "where a = 1 + 1 count");
        place(12, "where a = 1 b = 2 count");
        place(12, "where a = 1 ! b = 2 count");
        place(14, "where a = 1 & count");
        place(14, "where a = 1 | | b = 1 count");
        place(14, "where a = 1 & & b = 1 count");
        place(13, "where (a = 1 count");
        place(6, "where ) count");
        place(7, "where () count");
        place(8, "where (a) count");
        place(8, "where ! count");
        place(7, "where -a = 1 count");
        place(12, "where a = - b count");
        place(11, "where a = -- 1 count");
        place(11, "where a = -1234 count");
        place(10, "where a = 0001 count");
        place(10, "where a = 123456 count");
        place(6, "where 1000 = a count");
        place(10, "where a = A count");
        place(8, "where a / 1 count");
        place(14, "where (((((((((a=1))))))))) count");
        place(14, "where !!!!!!!!!a=1 count");
        place(14, "where !(!(!(!((a=1))))) count");
        place(23, "where ((((((((a=1 & b=2!");
        place(25, "where ((((((((a=1))))))))) count");
        place(17, "where !!!!!!!!a=1))))");
        place(22, "where !!!!a=1|((((((((((a=1");
        place(19, "where (!a=1&!(((((((a=1");
    }

    private static void placeOfActions() {
        for (String action : new String[] {"max", "min", "sum"}) {
            place(3, action);
            place(4, action + " z");
            place(4, action + " ab");
            place(4, action + " 1");
            place(4, action + " count");
            place(6, action + " a b");
            place(3, action + "1");
        }
        place(5, "list (");
        place(7, "list a , b");
        place(3, "set");
        place(4, "set z = 1");
        place(4, "set 1 = 1");
        place(5, "set a");
        place(6, "set a < 1");
        place(8, "set a = ");
        place(8, "set a = set");
        place(8, "set a = z");
        place(8, "set a = (1)");
        place(8, "set a = 1000");
        place(9, "set a = -a");
        place(9, "set a = -");
        place(10, "set a = 1 2");
        place(10, "set a = 1 b");
        place(10, "set a = 1 / 2");
        place(10, "set a = 1 & 2");
        place(11, "set a = 1 +");
        place(12, "set a = 1 + + 2");
        place(13, "set a = 1 + -b");
        place(14, "set a = 1 - - - 1");
        place(13, "set a = 1 -  1234");
        place(14, "set a = 1 + 2 + 3");
        place(14, "set a = 1 + 2 count");
        place(12, "set a = 1 , ");
        place(12, "set a = 1 , , b = 1");
        place(12, "set a = 1 , z = 1");
        place(13, "set a = 1 , b");
        place(18, "set a = 1 , b = 1 , c = 1");
        place(20, "set a = 1,b = 2 * 3 , c = 1");
        StringBuilder full = new StringBuilder("count");
        while (full.length() < 99) {
            full.append(' ');
        }
        place(99, full + "?");
        due("15 a hundred characters", "2", Driver.table(2).tell(full + " "));
        StringBuilder ands = new StringBuilder("where a=0");
        while (ands.length() < 100) {
            ands.append(ands.length() < 96 ? "&1=1" : "&");
        }
        place(98, ands.toString());
        Driver bare = new Driver();
        place(bare, 3, "max");
        place(bare, 4, "max a");
    }

    private static void placeOverTime() {
        Driver d = Driver.table(1);
        d.text("set");
        due("15 no call yet", "-1", d.place());
        d.run();
        due("15 after it", "3", d.place());
        d.text(" a = 1");
        d.search(0, 0, false);
        due("15 other calls leave it", "3", d.place());
        d.run();
        due("15 a statement", "-1", d.place());
        d.tell("list q");
        d.wipe();
        due("15 wipe leaves it", "5", d.place());
        due("15 max takes none", ELEMENT, d.tell("where a = 7 max a"));
        due("15 it was a statement", "-1", d.place());
        d.tell("max q");
        due("15 wrong", "4", d.place());
        d.field('q', 9, 1, false);
        due("15 right with the field", "0", d.run());
        due("15 right", "-1", d.place());
    }

    private static void refused() {
        Driver d = Driver.table(4);
        for (int word = 0; word < 4; word++) {
            d.put(word, 'a', 12 + word);
        }
        due("16 before", "0", d.refused());
        due("16 set", "2", d.tell("set a = a + 2"));
        due("16 two", "2", d.refused());
        due("16 who refused is still taken", "0 1 2 3 ", d.responders());
        d.search(0, 0, false);
        d.tell("nonsense");
        d.tell("where a = 1 max a");
        due("16 stays when there is no statement", "2", d.refused());
        d.tell("set a = 16, b = 16");
        due("16 both do not fit", "4", d.refused());
        d.tell("set a = 1, b = 16");
        due("16 the second does not fit", "4", d.refused());
        d.tell("where a = 15 set a = 99");
        due("16 only those taken", "2", d.refused());
        d.tell("set b = 1");
        due("16 none", "0", d.refused());
        for (String other : new String[] {"count", "sum a", "max a", "min a", "list a", "where 1=2 set a = 99"}) {
            d.tell("set a = 16");
            due("16 all", "4", d.refused());
            d.tell(other);
            due("16 after " + other, "0", d.refused());
        }
    }

    private static void listed() {
        Driver d = Driver.table(32);
        due("17 before", INDEX, d.listed(0));
        for (int word = 0; word < 32; word++) {
            d.put(word, 'b', word * 7 % 3 - 1);
        }
        d.tell("list b");
        StringBuilder want = new StringBuilder();
        for (int value = -1; value < 2; value++) {
            for (int word = 0; word < 32; word++) {
                want.append(word * 7 % 3 - 1 == value ? word + " " : "");
            }
        }
        due("17 by values, then by numbers", want.toString(), d.list());
        for (int i : new int[] {-1, 32, Integer.MIN_VALUE, Integer.MAX_VALUE}) {
            due("17 none at " + i, INDEX, d.listed(i));
        }
        d.tell("where b = 1 count");
        d.tell("where b = 9 max b");
        d.tell("list");
        d.tell("set b = 0");
        d.remove(3);
        due("17 stays until the next list", want.toString(), d.list());
        d.put(30, 'b', -1);
        d.tell("where a = 0 & b < 0 | b > 0 list a");
        due("17 a shorter list", "30 ", d.list());
        due("17 nothing of the old one", INDEX, d.listed(1));
        d.tell("where a = 1 list a");
        due("17 an empty list", INDEX, d.listed(0));
    }
}
