import java.util.List;

/** The boundary cases that promises 14 to 17 name, each on both sides; a name begins with the promise's number. */
public final class BoundaryRunTest {
    private static final List<String> ACTIONS = List.of("set", "max", "min", "sum", "list", "count");
    private static final List<String> OTHER_WORDS = List.of("d", "z", "ab", "aa", "wher", "wheres", "sets", "coun");
    private static final List<String> FIELDS = List.of("a", "b", "c");
    private static final String FIELD = "f";
    private static final String NUMBER = "n";
    private static final String ACTION = "x";
    private static final String WHERE = "w";
    private static final String ONE = "!(-fn";
    private static final String OPERAND = "-fn";

    public static void main(String[] args) {
        theTextIsEmptyThen();
        theTextStays();
        whoRespondsStays();
        maxAndMinTakeAWord();
        whatCanStandWhere();
        placesOfFieldNames();
        placesBehindAWholeStatement();
        placesOfTextsThatEndTooEarly();
        placesOverTime();
        refusedFromNoneToAll();
        refusedOverTime();
        listedFromFirstToLast();
        listedOverTime();
        Check.end();
    }

    private static void due(String what, Object want, Object got) {
        Check.due(what, want, got);
    }

    private static void isNone(int place, String text) {
        Driver d = Driver.table(2);
        due("14 |" + text + "| is no statement", Check.ARGUMENT, d.tell(text));
        due("15 |" + text + "| its place", String.valueOf(place), d.place());
    }

    private static void theTextIsEmptyThen() {
        for (String text : new String[] {"count", "max a", "min a", "sum a", "list a", "set a = 1", "set a = 99", "where a = 9 count",
                "where a = 9 list a", "where a = 9 sum a", "where a = 9 set a = 1", "count" + " ".repeat(95)}) {
            Driver d = Driver.table(1);
            d.tell(text);
            due("14 the text is empty after " + text, "0", d.wipe());
            d.tell(text);
            due("14 no statement any more after " + text, Check.ARGUMENT, d.run());
            due("15 it ends too early", "0", d.place());
            d.tell(text);
            d.text(" ".repeat(95) + "count");
            due("14 room for 100 after " + text, "1", d.run());
        }
    }

    private static void theTextStays() {
        for (String text : new String[] {"", "coun", "where a = 0 max b b", " ".repeat(100), "max a".repeat(20)}) {
            Driver d = Driver.table(1);
            due("14 no statement: |" + text + "|", Check.ARGUMENT, d.tell(text));
            due("14 the text stays: |" + text + "|", Check.ARGUMENT, d.run());
            due("14 all of it: |" + text + "|", String.valueOf(text.length()), d.wipe());
        }
        Driver d = Driver.table(1);
        d.tell("set a = ");
        d.text("9");
        due("14 it can be ended", "1", d.run());
        due("14 as it stood", "9", d.get(0, 'a'));
        due("14 no word", Check.ELEMENT, d.tell("where a = 1 max a"));
        due("14 the text stays", Check.ELEMENT, d.run());
        d.put(0, 'a', 1);
        due("14 a word", "1", d.run());
        due("14 the text is empty", "0", d.wipe());
        d.tell("where a = 2 min b");
        due("14 all of it", "17", d.wipe());
    }

    private static void whoRespondsStays() {
        for (String text : new String[] {"", "count count", "where a = 9 max a", "where a = 9 min a", "where a = 0 set a = 1,"}) {
            Driver d = Driver.table(3);
            d.search(0, 0, false);
            d.first();
            d.multi(Driver.WORK, -1);
            d.tell(text);
            due("14 who responds stays: " + text, "1 2 ", d.responders());
            due("14 the bits stay: " + text, Driver.WORK, d.bits(2));
            due("14 those of others: " + text, 0, d.bits(0));
            due("14 and then a statement: " + text, "3", d.tell("count"));
            due("14 who responds then: " + text, "0 1 2 ", d.responders());
        }
    }

    private static void maxAndMinTakeAWord() {
        for (String action : new String[] {"max", "min"}) {
            Driver d = Driver.table(0);
            due("14 no word in use: " + action, Check.ELEMENT, d.tell(action + " c"));
            d.insert();
            due("14 one word in use: " + action, "0", d.run());
            for (int v : new int[] {-512, -1, 511}) {
                d.put(0, 'c', v);
                due("14 of one word: " + action, String.valueOf(v), d.tell(action + " c"));
            }
            due("14 none is taken: " + action, Check.ELEMENT, d.tell("where c < 511 " + action + " c"));
            due("15 it was a statement", "-1", d.place());
            due("14 it is taken: " + action, "511", d.tell("where c > 510 " + action + " c"));
            d.insert();
            d.put(1, 'c', -512);
            due("14 of two: " + action, action.equals("max") ? "511" : "-512", d.tell(action + " c"));
            due("14 of one of two: " + action, "-512", d.tell("where c < 0 " + action + " c"));
            due("14 of the other: " + action, "511", d.tell("where c > 0 " + action + " c"));
        }
        Driver all = Driver.table(32);
        all.put(31, 'b', 15);
        all.put(0, 'b', -16);
        due("14 the last word's", "15", all.tell("max b"));
        due("14 the first word's", "-16", all.tell("min b"));
        all.put(0, 'b', 14);
        all.put(31, 'b', -15);
        due("14 the first word's", "14", all.tell("max b"));
        due("14 the last word's", "-15", all.tell("min b"));
    }

    /** Behind each of these beginnings each token is tried: it is the wrong one, unless it is of these kinds. */
    private static void whatCanStandWhere() {
        behind(WHERE + ACTION, "", "  ");
        behind(ONE, "where", "where !", "where (", "where !(", "where (!", "where a=1&", "where a=1|", "where (a=1|", "where !a=1&", "where (a=1)&");
        behind(NUMBER, "where -", "where !-", "where (-", "where a=1&-", "where a<-", "where 1=-", "where -1>-");
        behind("<=>", "where a", "where 12", "where -123", "where !a", "where (a", "where a=1|a", "where a=1&-1");
        behind(OPERAND, "where a<", "where a=", "where a>", "where 1=", "where -1<", "where !(a>", "where a=1|b=");
        behind("&|" + ACTION, "where a=1", "where a<b", "where 1>-1", "where !a=1", "where (a=1)", "where !(a=1)", "where !!(!a=1)",
                "where a=1&b=1", "where a=1|b=1", "where a=1&(b=1)", "where ((a=1))", "where ((((((((a=1))))))))", "where !!!!!!!!a=1");
        behind("&|)", "where (a=1", "where (a=b", "where (a=-1", "where ((a=1)", "where !(a=1", "where (!a=1", "where (a=1&b=1", "where (a=1|b=1",
                "where a=1&(b=1", "where ((((((((a=1");
        behind(OPERAND, "where ((((((((", "where !!!!!!!!", "where !(!(!(!(", "where ((((((((a=1&", "where ((((((((a=1|", "where (!!!!!!!a=1&!!!!!!!");
        behind(FIELD, "set", "set a=1,", "set a=1+2,", "max", "min", "sum", "list", "where a=1 set", "where a=1 set a=b,", "where (a=1) list");
        behind("=", "set a", "set a=1,b", "where a=1 set c");
        behind(OPERAND, "set a=", "set a=1+", "set a=1-", "set a=-1*", "set a=1,b=", "set a=1,b=a+", "set a=b,b=a-", "set a=1*2,b=1*");
        behind(NUMBER, "set a=-", "set a=1+-", "set a=1--", "set a=1*-", "set a=1,b=-", "set a=1,b=1+-", "set a=1,b=1--");
        behind("+-*,", "set a=1", "set a=b", "set a=-1", "where a=1 set a=1");
        behind(",", "set a=1+2", "set a=b-c", "set a=1*-2", "where a=1 set a=a+1");
        behind("+-*", "set a=1,b=1", "set a=1+2,b=c", "set a=a*a,a=-1");
        behind("", "set a=1,b=1+2", "set a=1,b=1*-2", "set a=1+1,b=b-c", "max a", "min a", "sum a", "list a", "count", "where a=1 count",
                "where a=1 max b", "where a=1 set a=1,b=1-1");
    }

    private static void behind(String kinds, String... beginnings) {
        for (String beginning : beginnings) {
            tryToken(beginning, "where", kinds.contains(WHERE));
            ACTIONS.forEach(word -> tryToken(beginning, word, kinds.contains(ACTION)));
            FIELDS.forEach(word -> tryToken(beginning, word, kinds.contains(FIELD)));
            OTHER_WORDS.forEach(word -> tryToken(beginning, word, false));
            for (String number : new String[] {"0", "15", "999", "1000", "0000", "12345"}) {
                tryToken(beginning, number, kinds.contains(NUMBER) && number.length() <= 3);
            }
            for (char c = 33; c <= 126; c++) {
                if ((c < 'a' || c > 'z') && (c < '0' || c > '9')) {
                    tryToken(beginning, String.valueOf(c), kinds.indexOf(c) >= 0);
                }
            }
        }
    }

    /** A token that can stand leaves a statement, or a text that just ends too early. */
    private static void tryToken(String beginning, String token, boolean canStand) {
        String text = beginning + "  " + token + " ";
        Driver d = Driver.table(2);
        String answer = d.tell(text);
        String place = d.place();
        if (canStand) {
            due("15 |" + text + "| its last token can stand", answer.equals(Check.ARGUMENT) ? String.valueOf(text.length()) : "-1", place);
        } else {
            due("14 |" + text + "|", Check.ARGUMENT, answer);
            due("15 |" + text + "| its last token can't stand", String.valueOf(beginning.length() + 2), place);
        }
        d = Driver.table(2);
        d.tell(text + "# where set 1 ( ) count");
        due("15 |" + text + "#| the first one that can't stand", String.valueOf(canStand ? text.length() : beginning.length() + 2), d.place());
    }

    private static void placesOfFieldNames() {
        for (String text : new String[] {"where ?=1 count", "where 1<? count", "where !(a=1&?>b) count", "max ?", "min ?", "sum ?", "list ?",
                "set ?=1", "set a=?", "set a=1+?", "set a=b,?=1", "set a=b,b=?", "set a=b,b=c*?", "where a=1 max ?"}) {
            int place = text.indexOf('?');
            for (String name : new String[] {"a", "b", "c"}) {
                Driver d = Driver.table(1);
                d.put(0, 'a', 1);
                d.tell(text.replace("?", name));
                due("15 a field's name: " + text, "-1", d.place());
            }
            for (String name : new String[] {"d", "z", "aa", "ab", "abc", "max", "where", "count", "set"}) {
                isNone(place, text.replace("?", name));
            }
            Driver bare = new Driver();
            due("14 no fields: " + text, Check.ARGUMENT, bare.tell(text.replace("?", "e")));
            Driver later = Driver.table(1);
            later.tell(text.replace("?", "e"));
            due("15 not yet a field's name: " + text, String.valueOf(place), later.place());
            later.put(0, 'a', 1);
            later.field('e', 9, 5, false);
            later.run();
            due("15 a field's name now: " + text, "-1", later.place());
        }
    }

    private static void placesBehindAWholeStatement() {
        for (String whole : new String[] {"count", "max a", "min b", "sum c", "list a", "set a = 1 + 1, b = 1 - 1", "where a = 1 | b = 1 count"}) {
            Driver d = Driver.table(1);
            d.put(0, 'a', 1);
            d.tell(whole);
            due("15 whole: " + whole, "-1", d.place());
            d.tell(whole + "   ");
            due("15 blanks behind: " + whole, "-1", d.place());
            for (String more : new String[] {"count", "where", "a", "z", "1", "1234", ",", "+", "-", "*", "=", "<", ")", "(", "!", "&", "|", "#", "A", "."}) {
                isNone(whole.length() + 1, whole + " " + more);
                isNone(whole.length() + 3, whole + "   " + more + " " + whole);
            }
        }
        for (String more : new String[] {"1", ",", "+", "=", ")", "!", "#"}) {
            isNone(5, "count" + more);
            isNone(5, "max a" + more);
        }
    }

    private static void placesOfTextsThatEndTooEarly() {
        String[] tokens = "where ! ( a < - 1 | 2 = b ) & c > 0 set a = - 1 + - 2 , b = a * 3".split(" ");
        // Behind so many tokens (-1, -2, the second change's a) the statement may end.
        List<Integer> mayEndBehind = List.of(21, 24, 28);
        StringBuilder text = new StringBuilder();
        for (int n = 0; n < tokens.length; n++) {
            boolean whole = mayEndBehind.contains(n);
            Driver d = Driver.table(1);
            String answer = d.tell(text.toString());
            due("14 |" + text + "|", whole, !answer.equals(Check.ARGUMENT));
            due("15 |" + text + "| ends too early", String.valueOf(whole ? -1 : text.length()), d.place());
            d.tell(text + "  ");
            due("15 |" + text + "  | ends too early", String.valueOf(whole ? -1 : text.length() + 2), d.place());
            text.append(n == 0 ? "" : " ").append(tokens[n]);
        }
        isNone(100, "where" + " ".repeat(95));
        isNone(0, "");
        isNone(100, " ".repeat(100));
    }

    private static void placesOverTime() {
        Driver d = Driver.table(1);
        due("15 no call", "-1", d.place());
        d.text("max q");
        due("15 a text, but no call", "-1", d.place());
        d.run();
        due("15 no statement", "4", d.place());
        due("15 asked again", "4", d.place());
        d.wipe();
        d.text("max");
        d.insert();
        d.search(0, 0, false);
        d.multi(1, 1);
        d.put(0, 'q', 0);
        d.listed(-1);
        due("15 stays until the next call of run", "4", d.place());
        d.run();
        due("15 it ends too early", "3", d.place());
        d.text(" a");
        due("15 stays while more is written", "3", d.place());
        d.run();
        due("15 a statement", "-1", d.place());
        d.tell("max 1");
        due("15 no statement", "4", d.place());
        due("14 no word", Check.ELEMENT, d.tell("where 1 = 2 max a"));
        due("15 a statement, though max takes no word", "-1", d.place());
        d.tell("  ,");
        due("15 no statement", "2", d.place());
        due("14 no word", Check.ELEMENT, d.tell("where 1 = 2 min a"));
        due("15 a statement, though min takes no word", "-1", d.place());
    }

    private static void refusedFromNoneToAll() {
        Driver d = Driver.table(32);
        due("16 before", "0", d.refused());
        for (int word = 0; word < 32; word++) {
            d.put(word, 'c', word);
        }
        for (int most : new int[] {511, 480 + 30, 480 + 16, 481, 480, 479}) {
            int refused = Math.min(32, 511 - most);
            d.tell("set c = c + " + (511 - most + 480) + ", c = c");
            due("16 how many above " + most, String.valueOf(refused), d.refused());
        }
        Driver e = Driver.table(32);
        due("16 all", "0", e.tell("set a = 16"));
        due("16 all of them", "32", e.refused());
        due("16 none", "32", e.tell("set a = 15"));
        due("16 none of them", "0", e.refused());
        due("16 all that are taken", "0", e.tell("where a = 15 set a = a + 1, b = 0"));
        due("16 all of them", "32", e.refused());
        e.remove(31);
        e.tell("set a = a + 1");
        due("16 no free ones", "31", e.refused());
        Driver none = Driver.table(0);
        due("16 of no words", "0", none.tell("set a = 16"));
        due("16 none", "0", none.refused());
    }

    private static void refusedOverTime() {
        for (String next : new String[] {"count", "sum a", "max a", "min a", "list a", "where 1 = 2 set a = 99", "set a = 1", "where 1 = 2 count"}) {
            Driver d = Driver.table(3);
            d.tell("set a = 16");
            due("16 behind set", "3", d.refused());
            due("16 asked again", "3", d.refused());
            d.remove(0);
            d.put(1, 'a', 16);
            d.search(0, 0, false);
            due("16 other calls leave it", "3", d.refused());
            d.tell("set a = 16,");
            due("16 no statement leaves it", "3", d.refused());
            due("14 no word", Check.ELEMENT, d.tell("where 1 = 2 max a"));
            due("16 a call that throws leaves it", "3", d.refused());
            d.tell(next);
            due("16 the latest statement is " + next, "0", d.refused());
        }
    }

    private static void listedFromFirstToLast() {
        for (int words : new int[] {0, 1, 2, 31, 32}) {
            Driver d = Driver.table(words);
            due("17 nothing was listed", Check.INDEX, d.listed(0));
            due("17 how many", String.valueOf(words), d.tell("list a"));
            for (int i = -2; i <= 34; i++) {
                due("17 of " + words + " the one at " + i, i >= 0 && i < words ? String.valueOf(i) : Check.INDEX, d.listed(i));
            }
            due("17 the lowest index", Check.INDEX, d.listed(Integer.MIN_VALUE));
            due("17 the highest index", Check.INDEX, d.listed(Integer.MAX_VALUE));
        }
    }

    private static void listedOverTime() {
        Driver d = Driver.table(4);
        for (int word = 0; word < 4; word++) {
            d.put(word, 'b', -word);
        }
        d.tell("where b < 0 list b");
        for (String other : new String[] {"count", "sum a", "max a", "min b", "set b = 1", "set a = 99", "list", "list q", "list a b", "",
                "where 1 = 2 max a", "where 1 = 2 count"}) {
            d.tell(other);
            due("17 the latest list is before " + other, "3 2 1 ", d.list());
        }
        d.remove(3);
        d.first();
        due("17 of words that were removed", "3 2 1 ", d.list());
        due("17 as many as before", "3", d.tell("list c"));
        due("17 it is the latest", "0 1 2 ", d.list());
        d.put(1, 'c', 5);
        d.tell("where c = 5 list a");
        due("17 of one", "1 ", d.list());
        due("17 nothing of the list before", Check.INDEX, d.listed(1));
        due("17 of none", "0", d.tell("where c = 6 list a"));
        due("17 nothing at all", Check.INDEX, d.listed(0));
    }
}
