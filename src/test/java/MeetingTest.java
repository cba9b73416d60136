/** Runs of many calls in which the promises meet: what one call tells is found again by others. */
public final class MeetingTest {
    private static final int WORK = Driver.WORK;
    private static final int KEPT = 1 << 24;
    private static final int FOUND = 1 << 31;
    private static final int[] SOME = {3, -16, 15, 3, -1, 0, -16, 7, 15, -8};

    public static void main(String[] args) {
        theGreatestIsFoundBitByBit();
        theListIsFoundByTakingTheLeast();
        conditionsAreFoundBySearching();
        setsDoWhatPutsDo();
        takenWordsAreMarkedAndRemoved();
        fieldsAreMadeWhileWordsAreInUse();
        aTextIsMendedByItsPlace();
        allCallsOfAnObject();
        Check.end();
    }

    private static void due(String what, Object want, Object got) {
        Check.due(what, want, got);
    }

    /** A table with SOME values in b, and as many words' numbers in a and squares in c. */
    private static Driver some() {
        Driver d = Driver.table(SOME.length);
        for (int word = 0; word < SOME.length; word++) {
            d.put(word, 'a', word);
            d.put(word, 'b', SOME[word]);
            d.put(word, 'c', SOME[word] * SOME[word]);
        }
        return d;
    }

    private static void theGreatestIsFoundBitByBit() {
        for (String left : new String[] {"where 1 = 1 ", "where b < 15 ", "where b < 0 ", "where b = -16 ", "where a > 4 & b < 7 "}) {
            greatest(left, 'a', 0, 4, false);
            greatest(left, 'b', 4, 5, true);
            greatest(left, 'c', 14, 10, true);
        }
    }

    private static void greatest(String left, char name, int first, int width, boolean signed) {
        Driver d = some();
        d.tell(left + "count");
        for (int i = width - 1; i >= 0; i--) {
            int bit = 1 << first + i;
            keepThoseWith(d, bit, signed && i == width - 1 ? 0 : bit);
        }
        String responders = d.responders();
        String value = d.get(Integer.parseInt(d.first()), name);
        due(left + "max " + name + ", found bit by bit", d.tell(left + "max " + name), value);
        d.tell(left + "& " + name + " = " + value + " count");
        due(left + "those that have it", responders, d.responders());
    }

    /** Of the words that respond only those with this bit go on, if there are any. */
    private static void keepThoseWith(Driver d, int bit, int pattern) {
        d.multi(KEPT, -1);
        if (d.search(bit, pattern, true).equals("0")) {
            d.search(KEPT, KEPT, false);
        }
        d.multi(FOUND, -1);
        d.search(KEPT, KEPT, false);
        d.multi(KEPT, 0);
        d.search(FOUND, FOUND, false);
        d.multi(FOUND, 0);
    }

    private static void theListIsFoundByTakingTheLeast() {
        Driver d = some();
        due("list", "10", d.tell("list b"));
        for (int i = 0; i < SOME.length; i++) {
            String least = d.tell("min b");
            d.tell("where b = " + least + " count");
            String word = d.first();
            due("the least one left, at " + i, d.listed(i), word);
            due("it has that value", least, d.get(Integer.parseInt(word), 'b'));
            due("it is taken away", Check.OK, d.remove(Integer.parseInt(word)));
        }
        due("none is left", Check.ELEMENT, d.tell("min b"));
        due("the text stays", "5", d.wipe());
        due("the list stays", "1 6 9 4 5 0 3 7 2 8 ", d.list());
        due("the lowest one comes back", "0", d.insert());
        due("and is the least", "0", d.tell("min b"));
    }

    private static void conditionsAreFoundBySearching() {
        int below = 0;
        for (int v = 0; v < 16; v++) {
            Driver d = some();
            String many = d.search(15, v, false);
            String found = d.responders();
            due("where a = " + v, many, d.tell("where a = " + v + " count"));
            due("where a = " + v + ": those", found, d.responders());
            due("where a < " + v, String.valueOf(below), d.tell("where a < " + v + " count"));
            below += Integer.parseInt(many);
        }
        Driver d = some();
        String odd = "a=1|a=3|a=5|a=7|a=9|a=11|a=13|a=15";
        due("or", d.search(1, 1, false), d.tell("where " + odd + " count"));
        due("or: those", "1 3 5 7 9 ", d.responders());
        due("not", d.search(1, 0, false), d.tell("where !(" + odd + ") count"));
        due("not: those", "0 2 4 6 8 ", d.responders());
        due("and: those below 0 among them", "2", d.search(1 << 8, -1, true));
        String found = d.responders();
        due("and", "2", d.tell("where !(" + odd + ") & b < 0 count"));
        due("and: those", found, d.responders());
    }

    private static void setsDoWhatPutsDo() {
        for (int add = -40; add <= 40; add += 5) {
            Driver told = some();
            Driver done = some();
            int refused = 0;
            for (int word = 0; word < SOME.length; word++) {
                refused += done.put(word, 'b', SOME[word] + add).equals(Check.STATE) ? 1 : 0;
            }
            due("set adds " + add, String.valueOf(SOME.length - refused), told.tell("set b = b + " + add));
            due("refused, adding " + add, String.valueOf(refused), told.refused());
            for (int word = 0; word < SOME.length; word++) {
                due("word " + word + " with " + add, done.bits(word), told.bits(word));
            }
        }
    }

    private static void takenWordsAreMarkedAndRemoved() {
        Driver d = Driver.table(32);
        for (int word = 0; word < 32; word++) {
            d.put(word, 'c', word * 16 - 256);
        }
        due("half of them is taken", "16", d.tell("where c < 0 set a = 9"));
        due("marked", Check.OK, d.multi(WORK, 0x81000000));
        due("the others", "16", d.search(WORK, 0, false));
        due("the marked ones", "16", d.search(WORK, 0x81000000, false));
        for (int word = 0; word < 16; word++) {
            due("one after another", String.valueOf(word), d.first());
            due("removed", Check.OK, d.remove(word));
        }
        due("none responds any more", "-1", d.first());
        due("none has the mark", "0", d.search(KEPT, KEPT, false));
        due("none has the value", "0", d.tell("where a = 9 count"));
        due("the sum of the rest", String.valueOf(16 * 120), d.tell("sum c"));
        for (int word = 0; word < 16; word++) {
            due("free ones are used again", String.valueOf(word), d.insert());
        }
        due("no more are free", Check.ELEMENT, d.insert());
        due("new ones hold nothing", "17", d.tell("where c = 0 count"));
        due("the sum is as before", String.valueOf(16 * 120), d.tell("sum c"));
        due("all respond", "32", d.search(0, 0, true));
    }

    private static void fieldsAreMadeWhileWordsAreInUse() {
        Driver d = new Driver();
        due("a count needs no field", "0", d.tell("count"));
        d.insert();
        due("no field yet", Check.ARGUMENT, d.tell("set x = 5"));
        due("its place", "4", d.place());
        d.field('x', 10, 4, true);
        due("the text stayed, and is a statement now", "1", d.run());
        due("its bits", 5 << 10, d.bits(0));
        d.field('y', 0, 10, false);
        due("a field beside it", "1", d.tell("set y = 999 + x, x = 0 - x"));
        due("its bits", 1004 | 11 << 10, d.bits(0));
        due("a field over it", Check.ARGUMENT, d.field('z', 13, 2, false));
        due("a field behind it", Check.OK, d.field('z', 14, 10, false));
        due("a field of work bits", Check.ARGUMENT, d.field('w', 24, 1, false));
        d.search(0, 0, false);
        d.multi(WORK, -1);
        due("work bits are no value", "0", d.get(0, 'z'));
        due("what fits it", "1", d.tell("set z = y - x"));
        due("its value", "1009", d.get(0, 'z'));
        due("what does not fit it", "0", d.tell("set z = y + 20"));
        due("all that it holds", 1004 | 11 << 10 | 1009 << 14, d.bits(0));
    }

    private static void aTextIsMendedByItsPlace() {
        Driver d = some();
        String text = "wher a # 4 & ( b <= 0 | c > 1000 set c = c / 2";
        String[][] steps = {{"0", "wher", "where"}, {"8", "#", ">"}, {"19", "=", ""}, {"28", "1000", "10)"}, {"42", "/", "+"}};
        for (String[] step : steps) {
            due("|" + text + "|", Check.ARGUMENT, d.tell(text));
            due("|" + text + "| its place", step[0], d.place());
            int at = Integer.parseInt(step[0]);
            due("|" + text + "| what stands there", true, text.startsWith(step[1], at));
            due("|" + text + "| nothing is refused", "0", d.refused());
            text = text.substring(0, at) + step[2] + text.substring(at + step[1].length());
        }
        due("|" + text + "|", "4", d.tell(text));
        due("|" + text + "| those", "6 7 8 9 ", d.responders());
        due("|" + text + "| the first of them", "258", d.get(6, 'c'));
    }

    /** The 512th call is still promised. */
    private static void allCallsOfAnObject() {
        Driver d = Driver.table(32);
        for (int word = 0; word < 32; word++) {
            d.put(word, 'a', word % 16);
        }
        for (int n = 0; n < 40; n++) {
            boolean lists = n % 2 == 1;
            due("round " + n + " search", "16", d.search(1, 1, false));
            due("round " + n + " multi", Check.OK, d.multi(WORK, -1));
            due("round " + n + " first", "1", d.first());
            due("round " + n + " responds", "false", d.responds(1));
            due("round " + n + " bit", "true", d.bit(1, 24));
            due("round " + n + " get", "1", d.get(1, 'a'));
            due("round " + n + " write", "true", d.write(Driver.pack(lists ? "list a" : "count")));
            due("round " + n + " run", "32", d.run());
            due("round " + n + " place", "-1", d.place());
            due("round " + n + " refused", "0", d.refused());
            due("round " + n + " listed", n == 0 ? Check.INDEX : "16", d.listed(1));
        }
        due("write", "true", d.write(Driver.pack("set c=9")));
        due("run", "32", d.run());
        due("get", "9", d.get(31, 'c'));
        due("write", "true", d.write(Driver.pack("sum c")));
        due("the last call", "288", d.run());
        due("calls", Driver.MOST_CALLS, d.calls());
    }
}
