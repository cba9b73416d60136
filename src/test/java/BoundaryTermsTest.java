/** The boundary cases that the document's section 'Terms' names, each on both sides; a name quotes the sentence. */
public final class BoundaryTermsTest {
    private static final int WORK = Driver.WORK;
    private static final int[] NO_WORDS = {-1, 32, 33, Integer.MIN_VALUE, Integer.MAX_VALUE};

    public static void main(String[] args) {
        wordsAre0To31();
        bitsAre0To31();
        workBitsAreThoseFrom24On();
        aFreeWordNeverResponds();
        atMostSixFields();
        fieldsHaveWidths1To10();
        fieldsLieBelow24();
        noTwoFieldsOnTheSameBit();
        bitsHaveTheirValues();
        whatFitsAField();
        atMost100Characters();
        codesAre32To126();
        tokensAreAsLongAsCanBe();
        lettersOfWords();
        charactersBesideTokens();
        numbersHaveOneToThreeDecimals();
        blanksStandWhereOneWants();
        whereAndACondition();
        oneOrTwoChanges();
        oneOrTwoOperands();
        onlyANumberBehindMinus();
        atMostEightAreOpen();
        whatIsNotOpenAnyMore();
        onlyWordsInUseAreTaken();
        listedByValuesThenByNumbers();
        operandsAreAsBefore();
        eachStatementForItself();
        refusedIfAResultDoesNotFit();
        resultsAreNotWrappedAround();
        afterAStatement();
        theExceptionNamedFirst();
        Check.end();
    }

    private static void due(String what, Object want, Object got) {
        Check.due(what, want, got);
    }

    /** The text is a statement, and answers this, on two words with a = 0 and a = 1, the rest 0. */
    private static void answers(int want, String text) {
        Driver d = twoWords();
        due("|" + text + "| is a statement", String.valueOf(want), d.tell(text));
        due("|" + text + "| its place", "-1", d.place());
    }

    /** The text is no statement, and this is its place. */
    private static void isNone(int place, String text) {
        Driver d = twoWords();
        due("|" + text + "| is no statement", Check.ARGUMENT, d.tell(text));
        due("|" + text + "| its place", String.valueOf(place), d.place());
    }

    private static Driver twoWords() {
        Driver d = Driver.table(2);
        d.put(1, 'a', 1);
        return d;
    }

    private static String open(String signs, String inside) {
        return signs + inside + ")".repeat((int) signs.chars().filter(c -> c == '(').count());
    }

    private static void wordsAre0To31() {
        Driver d = Driver.table(32);
        for (int word : new int[] {0, 31}) {
            due("words are 0 .. 31: put " + word, Check.OK, d.put(word, 'a', 7));
            due("words are 0 .. 31: get " + word, "7", d.get(word, 'a'));
            due("words are 0 .. 31: bit " + word, "true", d.bit(word, 0));
            due("words are 0 .. 31: responds " + word, "false", d.responds(word));
            due("words are 0 .. 31: remove " + word, Check.OK, d.remove(word));
        }
        for (int word : NO_WORDS) {
            due("words are 0 .. 31: put " + word, Check.ARGUMENT, d.put(word, 'a', 7));
            due("words are 0 .. 31: get " + word, Check.ARGUMENT, d.get(word, 'a'));
            due("words are 0 .. 31: bit " + word, Check.ARGUMENT, d.bit(word, 0));
            due("words are 0 .. 31: responds " + word, Check.ARGUMENT, d.responds(word));
            due("words are 0 .. 31: remove " + word, Check.ARGUMENT, d.remove(word));
        }
    }

    private static void bitsAre0To31() {
        Driver d = Driver.table(1);
        d.put(0, 'a', 1);
        d.search(0, 0, false);
        d.multi(1 << 31, -1);
        due("bits are 0 .. 31: 0", "true", d.bit(0, 0));
        due("bits are 0 .. 31: 1", "false", d.bit(0, 1));
        due("bits are 0 .. 31: 30", "false", d.bit(0, 30));
        due("bits are 0 .. 31: 31", "true", d.bit(0, 31));
        for (int k : NO_WORDS) {
            due("bits are 0 .. 31: " + k, Check.ARGUMENT, d.bit(0, k));
            due("bits are 0 .. 31, of a free word: " + k, Check.ARGUMENT, d.bit(1, k));
        }
    }

    private static void workBitsAreThoseFrom24On() {
        for (int k = 0; k < 32; k++) {
            Driver d = Driver.table(1);
            d.search(0, 0, false);
            due("those from 24 on are work bits: multi on " + k, k < 24 ? Check.ARGUMENT : Check.OK, d.multi(1 << k, -1));
            due("those from 24 on are work bits: it wrote on " + k, k < 24 ? 0 : 1 << k, d.bits(0));
        }
    }

    private static void aFreeWordNeverResponds() {
        for (int free : new int[] {0, 15, 31}) {
            Driver d = Driver.table(32);
            d.search(0, 0, false);
            d.remove(free);
            due("a free one never does: removed " + free, "false", d.responds(free));
            due("a free one never does: all among", "31", d.search(0, 0, true));
            due("a free one never does: all", "31", d.search(0, 0, false));
            due("a free one never does: those that are all 0", "31", d.search(-1, 0, false));
            due("a free one never does: searched " + free, "false", d.responds(free));
            d.multi(WORK, -1);
            due("a free one is not written to", 0, d.bits(free, 24, 31));
            due("a free one is not taken", "31", d.tell("where a = 0 count"));
            due("a free one never does: statement " + free, "false", d.responds(free));
            due("a free one is not set", "31", d.tell("set a = 1"));
            due("a free one is not set: " + free, "false", d.bit(free, 0));
            d.insert();
            due("not as soon as it is in use either", "false", d.responds(free));
            due("in use again", "32", d.search(0, 0, false));
            due("in use again: " + free, "true", d.responds(free));
        }
        Driver d = new Driver();
        due("none in use: all", "0", d.search(0, 0, false));
        for (int word = 0; word < 32; word++) {
            due("none in use: " + word, "false", d.responds(word));
        }
    }

    private static void atMostSixFields() {
        Driver d = new Driver();
        d.insert();
        for (int i = 0; i < 6; i++) {
            due("at most 6: field " + (i + 1), Check.OK, d.field((char) ('u' + i), 4 * i, 4, false));
        }
        Driver e = new Driver();
        for (int i = 0; i < 6; i++) {
            due("at most 6: field " + (i + 1), Check.OK, e.field((char) ('a' + i), 23 - i, 1, true));
        }
        due("at most 6: a seventh", Check.STATE, e.field('z', 0, 1, false));
        due("at most 6: a seventh of 10 bits", Check.STATE, e.field('g', 0, 10, true));
        e.insert();
        due("at most 6: there is no seventh", Check.ARGUMENT, e.get(0, 'z'));
        due("at most 6: the sixth is there", Check.OK, e.put(0, 'f', -1));
        due("at most 6: and lies where it should", 1 << 18, e.bits(0));
        for (int i = 0; i < 6; i++) {
            due("at most 6: all hold values", Check.OK, d.put(0, (char) ('u' + i), i + 9));
        }
        for (int i = 0; i < 6; i++) {
            due("at most 6: each its own", String.valueOf(i + 9), d.get(0, (char) ('u' + i)));
        }
    }

    private static void fieldsHaveWidths1To10() {
        for (int width = -1; width <= 34; width++) {
            boolean good = width >= 1 && width <= 10;
            Driver d = new Driver();
            due("a width from 1 to 10: " + width, good ? Check.OK : Check.ARGUMENT, d.field('f', 0, width, false));
            d.insert();
            due("a width from 1 to 10: made " + width, good ? "0" : Check.ARGUMENT, d.get(0, 'f'));
        }
        for (int width : new int[] {Integer.MIN_VALUE, Integer.MIN_VALUE + 1, Integer.MAX_VALUE - 22, Integer.MAX_VALUE}) {
            due("a width from 1 to 10: " + width, Check.ARGUMENT, new Driver().field('f', 0, width, false));
            due("a width from 1 to 10: " + width, Check.ARGUMENT, new Driver().field('f', 23, width, true));
        }
    }

    private static void fieldsLieBelow24() {
        for (int width = 1; width <= 10; width++) {
            for (boolean signed : new boolean[] {false, true}) {
                Driver d = new Driver();
                due("all below 24: width " + width, Check.ARGUMENT, d.field('f', 25 - width, width, signed));
                due("all below 24: width " + width, Check.OK, d.field('f', 24 - width, width, signed));
                d.insert();
                d.put(0, 'f', signed ? -1 : (1 << width) - 1);
                due("all below 24: its bits", (1 << 24) - (1 << 24 - width), d.bits(0));
            }
        }
        for (int first : new int[] {-1, -10, 24, 25, 32, 1 << 24, Integer.MIN_VALUE, Integer.MAX_VALUE, Integer.MAX_VALUE - 8}) {
            for (int width : new int[] {1, 9, 10}) {
                due("all below 24: first " + first, Check.ARGUMENT, new Driver().field('f', first, width, false));
            }
        }
        due("all below 24: first 0", Check.OK, new Driver().field('f', 0, 10, true));
        due("all below 24: first 23", Check.OK, new Driver().field('f', 23, 1, true));
    }

    private static void noTwoFieldsOnTheSameBit() {
        for (int first = 0; first < 24; first++) {
            for (int width = 1; width <= 10 && first + width <= 24; width++) {
                Driver d = new Driver();
                d.field('a', 10, 4, false);
                boolean apart = first + width <= 10 || first >= 14;
                due("no two on the same bit: " + first + " with " + width, apart ? Check.OK : Check.ARGUMENT,
                        d.field('b', first, width, true));
                d.insert();
                due("no two on the same bit: made", apart ? "0" : Check.ARGUMENT, d.get(0, 'b'));
            }
        }
        Driver d = new Driver();
        d.field('a', 0, 10, false);
        d.field('b', 10, 10, true);
        due("no two on the same bit: the last of three", Check.ARGUMENT, d.field('c', 19, 5, false));
        due("no two on the same bit: the last of three", Check.ARGUMENT, d.field('c', 9, 1, false));
        due("no two on the same bit: the last of three", Check.OK, d.field('c', 20, 4, false));
        due("no bit is left", Check.ARGUMENT, d.field('d', 23, 1, false));
        due("no bit is left", Check.ARGUMENT, d.field('d', 0, 1, false));
    }

    private static void bitsHaveTheirValues() {
        for (int width = 1; width <= 10; width++) {
            for (int first : new int[] {0, 24 - width}) {
                for (boolean signed : new boolean[] {false, true}) {
                    Driver d = new Driver();
                    d.field('f', first, width, signed);
                    d.insert();
                    for (int i = 0; i < width; i++) {
                        int worth = signed && i == width - 1 ? -(1 << i) : 1 << i;
                        String what = "bit " + i + " of " + width + " from " + first + (signed ? ", signed" : "");
                        due(what + ": put", Check.OK, d.put(0, 'f', worth));
                        due(what + ": alone", 1 << first + i, d.bits(0));
                        due(what + ": its value", String.valueOf(worth), d.get(0, 'f'));
                    }
                }
            }
        }
    }

    private static void whatFitsAField() {
        for (int width = 1; width <= 10; width++) {
            for (int first : new int[] {0, 24 - width}) {
                fits(width, first, 0, (1 << width) - 1, false);
                fits(width, first, -(1 << width - 1), (1 << width - 1) - 1, true);
            }
        }
    }

    private static void fits(int width, int first, int least, int greatest, boolean signed) {
        Driver d = new Driver();
        d.field('f', first, width, signed);
        d.insert();
        String what = "fits " + width + (signed ? " signed: " : ": ");
        for (int v : new int[] {least, greatest, 0}) {
            due(what + v, Check.OK, d.put(0, 'f', v));
            due(what + v, String.valueOf(v), d.get(0, 'f'));
        }
        d.put(0, 'f', least);
        int size = 1 << width;
        for (int v : new int[] {least - 1, greatest + 1, greatest + size, least - size, Integer.MIN_VALUE, Integer.MAX_VALUE,
                1 << 24, 1 << 31 - first}) {
            due(what + v, Check.STATE, d.put(0, 'f', v));
            due(what + "stays behind " + v, String.valueOf(least), d.get(0, 'f'));
        }
        for (int v : new int[] {greatest, least}) {
            due(what + "set " + v, "1", d.tell("set f = " + sumFor(v)));
            due(what + "set " + v, String.valueOf(v), d.get(0, 'f'));
            due(what + "none refused", "0", d.refused());
        }
        for (int v : new int[] {greatest + 1, least - 1}) {
            due(what + "set " + v, "0", d.tell("set f = " + sumFor(v)));
            due(what + "set " + v, String.valueOf(least), d.get(0, 'f'));
            due(what + "one refused", "1", d.refused());
        }
    }

    /** A number of more than three decimals has to be added up. */
    private static String sumFor(int v) {
        return v > 999 ? "999 + " + (v - 999) : v < -999 ? "-999 - " + (-999 - v) : String.valueOf(v);
    }

    private static void atMost100Characters() {
        answers(2, " ".repeat(95) + "count");
        answers(2, "count" + " ".repeat(95));
        answers(1, "where a=1" + "&1=1".repeat(21) + "  count");
        isNone(99, "count" + " ".repeat(94) + "x");
        isNone(96, " ".repeat(96) + "coun");
        isNone(100, " ".repeat(100));
        for (String last : new String[] {"x", "a", "1", "(", "#"}) {
            isNone(99, " ".repeat(99) + last);
            isNone(98, " ".repeat(98) + last);
        }
        isNone(95, " where 1=1" + "&1=1".repeat(21) + "&count");
        isNone(100, "where 1=1" + "&1=1".repeat(22) + " & ");
        Driver d = twoWords();
        d.text(" ".repeat(96) + "coun");
        due("at most 100: no t behind them", "false", d.write('t'));
        due("at most 100: so it is no statement", Check.ARGUMENT, d.run());
        due("at most 100: all of them", "100", d.wipe());
    }

    private static void codesAre32To126() {
        for (int code = 1; code < 256; code++) {
            Driver d = new Driver();
            boolean good = code >= 32 && code <= 126;
            due("codes 32 .. 126: " + code, String.valueOf(good), d.write(code));
            due("codes 32 .. 126: added " + code, good ? "1" : "0", d.wipe());
        }
    }

    private static void tokensAreAsLongAsCanBe() {
        answers(1, "where a=1count");
        answers(1, "where a=1 count");
        isNone(0, "wherea=1 count");
        isNone(0, "whe re a=1 count");
        isNone(0, "wherewhere a=1 count");
        isNone(0, "maxa");
        isNone(3, "max1a");
        isNone(4, "max ab");
        isNone(4, "max aa");
        isNone(0, "counts");
        isNone(0, "coun");
        isNone(0, "coun t");
        isNone(0, "c ount");
        isNone(0, "sums a");
        isNone(10, "where a=1 counta");
        isNone(10, "where a=1 xcount");
        isNone(6, "where ab=1 count");
        isNone(8, "where a b=1 count");
        isNone(8, "where 1 1=a count");
        isNone(10, "where a=1 1count");
        isNone(9, "where a <=1 count");
        isNone(8, "where a>=1 count");
        isNone(8, "where a==1 count");
        isNone(8, "where a<>1 count");
        isNone(10, "where a=1&&a=1 count");
        isNone(10, "where a=1||a=1 count");
        answers(2, "set c = 10");
        isNone(10, "set c = 1 0");
        isNone(9, "set c = 1b");
        answers(2, "set c=1+1,b=1-1");
        answers(2, "set c=1");
        isNone(0, "setc=1");
    }

    private static void lettersOfWords() {
        for (char name = 'a'; name <= 'z'; name++) {
            Driver d = new Driver();
            d.field(name, 0, 3, false);
            d.insert();
            due("letters a .. z: " + name, "1", d.tell("where " + name + "=0 set " + name + "=" + name + "+7"));
            due("letters a .. z: " + name, "7", d.tell("max " + name));
            due("no such word: a" + name, Check.ARGUMENT, d.tell("max a" + name));
            due("no such word: its place", "4", d.place());
            due("no such word: " + name + "z", Check.ARGUMENT, d.tell("where " + name + "z=0 count"));
            due("no such word: its place", "6", d.place());
        }
        for (String text : new String[] {"where a=1 count", "count", "max a", "min a", "sum a", "list a", "set a=1"}) {
            int length = text.indexOf(' ') < 0 ? text.length() : text.indexOf(' ');
            for (int i = 0; i < length; i++) {
                String before = text.substring(0, i);
                String behind = text.substring(i + 1);
                isNone(0, before + 'q' + behind);
                isNone(0, before + 'z' + text.charAt(i) + behind);
                isNone(0, before + behind);
            }
            isNone(0, text.substring(0, length) + 'a' + text.substring(length));
            isNone(0, text.substring(0, 1).toUpperCase() + text.substring(1));
        }
    }

    private static void charactersBesideTokens() {
        for (char c : new char[] {'`', '{', '@', '[', '/', ':', '?', ';', '~', '"', '#', '.', 'A', 'Z', '_'}) {
            isNone(5, "where" + c + "a=1 count");
            isNone(7, "where a" + c + "=1 count");
            isNone(8, "where a=" + c + "1 count");
            isNone(9, "where a=1" + c + " count");
            isNone(10, "where a=12" + c + "count");
            isNone(11, "where a=123" + c + "&a=1 count");
            isNone(9, "where a=b" + c + " count");
            isNone(5, "count" + c);
            isNone(0, c + "count");
            isNone(4, "max " + c + "a");
            isNone(5, "max a" + c);
            isNone(7, "set a=1" + c);
            isNone(7, "set a=1" + c + "2");
        }
    }

    private static void numbersHaveOneToThreeDecimals() {
        answers(2, "where a < 9 count");
        answers(2, "where a < 99 count");
        answers(2, "where a < 999 count");
        isNone(10, "where a < 1000 count");
        isNone(10, "where a < 9999 count");
        isNone(10, "where a < 1234567890123 count");
        answers(1, "where a = 0 count");
        answers(1, "where a = 00 count");
        answers(1, "where a = 000 count");
        isNone(10, "where a = 0000 count");
        answers(1, "where a = 001 count");
        isNone(10, "where a = 0001 count");
        answers(2, "where a > -999 count");
        isNone(11, "where a > -1000 count");
        answers(1, "where 001 = a count");
        isNone(6, "where 0001 = a count");
        answers(2, "set c = 100");
        isNone(8, "set c = 0100");
        answers(2, "set c = 999 - 999");
        isNone(14, "set c = 999 - 0999");
        isNone(8, "set c = 0999 - 0999");
        due("the value of 999", "1", wide().tell("where w = 999 count"));
        due("the value of 998", "0", wide().tell("where w = 998 count"));
        due("the value of 099", "0", wide().tell("where w = 099 count"));
    }

    private static Driver wide() {
        Driver d = new Driver();
        d.field('w', 3, 10, false);
        d.insert();
        d.put(0, 'w', 999);
        return d;
    }

    private static void blanksStandWhereOneWants() {
        answers(1, "where!(a=0)&c=0|b<-1count");
        answers(1, " where ! ( a = 0 ) & c = 0 | b < - 1 count ");
        answers(1, "   where   !   (   a   =   0   )   &   c   =   0   |   b   <   -   1   count   ");
        answers(2, "set b=-1*-1,c=a");
        answers(2, "  set  b  =  -  1  *  -  1  ,  c  =  a  ");
        isNone(0, "");
        isNone(1, " ");
        isNone(6, "where ");
        isNone(5, "where");
    }

    private static void whereAndACondition() {
        answers(2, "count");
        answers(1, "where a = 1 count");
        isNone(6, "where count");
        isNone(0, "a = 1 count");
        isNone(0, "(a = 1) count");
        isNone(11, "where a = 1");
        isNone(12, "where a = 1 where a = 1 count");
        isNone(6, "where where a = 1 count");
        isNone(6, "count where a = 1");
    }

    private static void oneOrTwoChanges() {
        isNone(3, "set");
        answers(2, "set a = 1");
        answers(2, "set a = 1, b = 2");
        isNone(16, "set a = 1, b = 2, c = 3");
        isNone(16, "set a = 1, b = 2,");
        isNone(10, "set a = 1,");
        isNone(4, "set , a = 1");
        isNone(10, "set a = 1 b = 2");
        isNone(5, "max a, b");
        isNone(6, "list  ");
    }

    private static void oneOrTwoOperands() {
        isNone(7, "set a =");
        answers(2, "set c = 1");
        for (String sign : new String[] {"+", "-", "*"}) {
            isNone(11, "set c = 1 " + sign);
            answers(2, "set c = 1 " + sign + " 2");
            isNone(14, "set c = 1 " + sign + " 2 " + sign + " 3");
        }
        for (String sign : new String[] {"<", "=", ">"}) {
            isNone(9, "where a " + sign);
            isNone(6, "where " + sign + " a count");
            answers(2, "where !a " + sign + " b | a " + sign + " b count");
            isNone(12, "where a " + sign + " b " + sign + " c count");
        }
    }

    private static void onlyANumberBehindMinus() {
        answers(2, "where c > -1 count");
        isNone(11, "where c > -a count");
        isNone(11, "where c > -- 1 count");
        isNone(11, "where c > -(1) count");
        isNone(11, "where c > -");
        answers(2, "set c = -1");
        isNone(9, "set c = -a");
        isNone(9, "set c = --1");
        answers(2, "set c = 1 - -1");
        isNone(13, "set c = 1 - -a");
        isNone(13, "set c = 1 - --1");
        answers(2, "set c = a - b");
        isNone(7, "where -a = 1 count");
        answers(0, "where -1 = a count");
        isNone(6, "where +1 = a count");
        isNone(8, "set c = +1");
    }

    private static void atMostEightAreOpen() {
        for (String eight : new String[] {"!!!!!!!!", "((((((((", "!(!(!(!(", "(!(!(!(!", "!!!!((((", "((((!!!!", "(!!!!!!!", "!((((((("}) {
            long nots = eight.chars().filter(c -> c == '!').count();
            String seven = eight.substring(1);
            answers(1, "where " + open(seven, "a=1") + "count");
            answers(1, "where " + open(eight, "a=1") + "count");
            answers(nots % 2 == 0 ? 0 : 2, "where " + open(eight, "1=2") + "count");
            isNone(14, "where " + open(eight + "!", "a=1") + "count");
            isNone(14, "where " + open(eight + "(", "a=1") + "count");
            isNone(14, "where " + eight + "!");
            isNone(14, "where " + eight + "(");
            isNone(14, "where " + eight);
        }
    }

    private static void whatIsNotOpenAnyMore() {
        String eightNots = "!!!!!!!!a=1";
        String eightPairs = "((((((((a=1))))))))";
        answers(1, "where " + eightNots + "&" + eightNots + "|" + eightNots + "count");
        answers(1, "where " + eightPairs + "&" + eightPairs + "|" + eightPairs + "count");
        answers(1, "where " + eightNots + "&" + eightPairs + "&" + eightNots + "count");
        answers(1, "where (((((((!a=0&!a=0|!a=0)))))))count");
        isNone(18, "where ((((((((a=0&!a=0))))))))count");
        isNone(18, "where ((((((((a=0|(a=0)))))))))count");
        answers(1, "where (((((((a=1&(a=1)&(a=1))))))))count");
        isNone(18, "where (((((((a=0&!(a=0))))))))count");
        answers(1, "where (!!!!!!!a=0)count");
        isNone(14, "where (!!!!!!!!a=0)count");
        answers(0, "where (!!!!!!!a=1&!!!!!!!a=1&a=1)count");
        isNone(25, "where (!!!!!!!a=1&!!!!!!!!a=1)count");
        answers(1, "where !(!(!(!(a=1&a=1))))count");
        isNone(18, "where !(!(!(!(a=1&!a=1))))count");
        answers(1, "where !(!(!(!(a=1))&!!!!a=1))count");
        isNone(24, "where !(!(!(!(a=1))&!!!!!a=1))count");
        answers(1, "where !!!!!!!(a=0)&!!!!!!!!a=1count");
        answers(1, "where !(a=0)&!!!!!!!(a=0)count");
    }

    private static void onlyWordsInUseAreTaken() {
        Driver none = Driver.table(0);
        due("of no words: count", "0", none.tell("count"));
        due("of no words: sum", "0", none.tell("sum a"));
        due("of no words: list", "0", none.tell("list a"));
        due("of no words: set", "0", none.tell("set a = 1"));
        due("of no words: max", Check.ELEMENT, none.tell("max a"));
        due("of no words: min", Check.ELEMENT, none.tell("min a"));
        Driver one = Driver.table(1);
        due("of one word: count", "1", one.tell("count"));
        due("of one word: set", "1", one.tell("set a = 15"));
        due("of one word: sum", "15", one.tell("sum a"));
        due("of one word: list", "1", one.tell("list a"));
        due("of one word: max", "15", one.tell("max a"));
        due("of one word: min", "15", one.tell("min a"));
        Driver widest = wide();
        widest.put(0, 'w', 1023);
        due("of the greatest values: min", "1023", widest.tell("min w"));
        due("of the greatest values: max", "1023", widest.tell("max w"));
        due("of the greatest values: sum", "1023", widest.tell("sum w"));
        Driver all = Driver.table(32);
        due("of all words: count", "32", all.tell("count"));
        due("of all words: set", "32", all.tell("set a = 15, c = -512"));
        due("of all words: the greatest sum", "480", all.tell("sum a"));
        due("of all words: the least sum", "-16384", all.tell("sum c"));
        due("of all words: list", "32", all.tell("list a"));
        due("of all words: where it is true for none", "0", all.tell("where 1 > 1 count"));
        due("of all words: where it is true for all", "32", all.tell("where !1 > 1 count"));
        due("of all words: the greatest of the least", "-512", all.tell("max c"));
        all.remove(31);
        all.remove(0);
        due("of those left: without a condition", "30", all.tell("count"));
        due("of those left: where it is true for all", "30", all.tell("where !1 > 1 count"));
    }

    private static void listedByValuesThenByNumbers() {
        Driver d = Driver.table(4);
        due("list: equal ones", "4", d.tell("list b"));
        due("list: equal ones by their numbers", "0 1 2 3 ", d.list());
        int[] values = {15, -1, 0, -16};
        for (int word = 0; word < 4; word++) {
            d.put(word, 'b', values[word]);
        }
        d.tell("list b");
        due("list: by rising values, those below 0 first", "3 1 2 0 ", d.list());
        d.put(2, 'b', -16);
        d.put(0, 'b', -16);
        d.tell("list b");
        due("list: equal ones by their numbers, then the rest", "0 2 3 1 ", d.list());
        Driver all = Driver.table(32);
        for (int word = 0; word < 32; word++) {
            all.put(word, 'c', 31 - word);
        }
        StringBuilder falling = new StringBuilder();
        for (int word = 31; word >= 0; word--) {
            falling.append(word).append(' ');
        }
        due("list: all of them", "32", all.tell("list c"));
        due("list: all of them, turned round", falling.toString(), all.list());
    }

    private static void operandsAreAsBefore() {
        Driver d = Driver.table(1);
        d.put(0, 'a', 3);
        d.put(0, 'b', 5);
        due("operands as before", "1", d.tell("set a = b, b = a"));
        due("operands as before: a", "5", d.get(0, 'a'));
        due("operands as before: b", "3", d.get(0, 'b'));
        due("the same field twice", "1", d.tell("set a = a + 1, a = a + 2"));
        due("the second one over the first one", "7", d.get(0, 'a'));
        d.put(0, 'a', 15);
        due("the first one fits, the second one looks at before", "1", d.tell("set a = 0, b = a"));
        due("as before: b", "15", d.get(0, 'b'));
        due("would fit only as before", "1", d.tell("set a = 15, c = a + 511"));
        due("as before: c", "511", d.get(0, 'c'));
        due("would fit only behind the first one", "0", d.tell("set c = 0, c = c + 1"));
        due("refused", "1", d.refused());
    }

    private static void eachStatementForItself() {
        Driver d = Driver.table(2);
        due("a change with fields", "2", d.tell("set a = 3 + a, b = c - 4"));
        due("then one of numbers", "2", d.tell("set a = 5"));
        due("nothing of the change before", "5", d.get(1, 'a'));
        due("nor of the second one", "-4", d.get(1, 'b'));
        due("a change of fields", "2", d.tell("set c = a * b, b = a"));
        due("then numbers in its place", "2", d.tell("set c = 6 - 7, b = 2 * 3"));
        due("their difference", "-1", d.get(1, 'c'));
        due("their product", "6", d.get(1, 'b'));
        due("then fields again", "2", d.tell("set c = b + a, b = c"));
        due("their sum", "11", d.get(0, 'c'));
        due("its value", "-1", d.get(0, 'b'));
        due("a condition of numbers behind one of fields", "0", d.tell("where a = a & 1 = 2 count"));
        due("a condition of fields behind one of numbers", "0", d.tell("where 1 = 1 & a = b count"));
        due("a number on either side of a field", "2", d.tell("where a > 4 & 6 > a & 4 < 5 & b = -1 & -1 = b count"));
        due("without a condition again", "2", d.tell("count"));
    }

    private static void refusedIfAResultDoesNotFit() {
        Driver d = Driver.table(2);
        String[][] cases = {
            {"a = 15", "2"}, {"a = 16", "0"}, {"a = 0 - 0", "2"}, {"a = 0 - 1", "0"}, {"a = -1", "0"}, {"a = 3 * 5", "2"}, {"a = 4 * 4", "0"},
            {"b = 15", "2"}, {"b = 8 + 8", "0"}, {"b = -16", "2"}, {"b = -17", "0"}, {"b = -8 - 8", "2"}, {"b = -8 - 9", "0"},
            {"c = 511", "2"}, {"c = 512", "0"}, {"c = -512", "2"}, {"c = -513", "0"}, {"c = -32 * 16", "2"}, {"c = 32 * 16", "0"},
            {"a = 15, b = 15", "2"}, {"a = 15, b = 16", "0"}, {"a = 16, b = 15", "0"}, {"a = 16, b = 16", "0"},
            {"a = 15, a = 16", "0"}, {"a = 16, a = 15", "0"}, {"a = 14, a = 15", "2"},
        };
        for (String[] c : cases) {
            due("refused: set " + c[0], c[1], d.tell("set " + c[0]));
            due("refused: how many by " + c[0], c[1].equals("0") ? "2" : "0", d.refused());
        }
        Driver e = Driver.table(3);
        e.put(0, 'a', 14);
        e.put(1, 'a', 15);
        due("refused: those that do not fit", "2", e.tell("set b = 9, a = a + 1"));
        due("refused: one", "1", e.refused());
        due("refused: nothing of the word changes, the second does not fit", "0", e.get(1, 'b'));
        due("refused: it stays", "15", e.get(1, 'a'));
        due("refused: others change", "15", e.get(0, 'a'));
        due("refused: others change", "9", e.get(2, 'b'));
        due("refused: the first does not fit", "1", e.tell("set a = a + 1, b = -9"));
        due("refused: nothing of the word changes", "0", e.get(1, 'b'));
        due("refused: nor of this one", "9", e.get(0, 'b'));
        due("refused: but of that one", "-9", e.get(2, 'b'));
    }

    private static void resultsAreNotWrappedAround() {
        Driver d = Driver.table(1);
        d.put(0, 'c', -512);
        for (String change : new String[] {"a = 16", "a = 32", "a = -16", "b = 32", "b = -32", "c = 999 + 25", "c = 32 * 32",
                "c = -32 * 32", "c = c * c", "c = c * 2", "c = c * -1", "c = 0 - c", "c = c - 1", "c = 999 * 999", "c = -999 * 999",
                "a = 999 * 999", "a = c", "b = c"}) {
            due("wrap-around: set " + change, "0", d.tell("set " + change));
            due("wrap-around: c stays", "-512", d.get(0, 'c'));
        }
        due("wrap-around: no other bit", 0x800000, d.bits(0));
        Driver e = wide();
        e.put(0, 'w', 1023);
        due("wrap-around: w * w", "0", e.tell("set w = w * w"));
        due("wrap-around: w + 1", "0", e.tell("set w = w + 1"));
        due("wrap-around: w + w", "0", e.tell("set w = w + w"));
        due("wrap-around: w - 999", "1", e.tell("set w = w - 999"));
        due("wrap-around: its value", "24", e.get(0, 'w'));
    }

    private static void afterAStatement() {
        for (String action : new String[] {"count", "list a", "max a", "min a", "sum a", "set b = 1", "set b = 99"}) {
            Driver d = Driver.table(3);
            d.put(0, 'c', -512);
            d.put(1, 'a', 15);
            d.search(0, 0, false);
            d.multi(WORK, -1);
            d.first();
            d.tell("where a < 15 " + action);
            due("only those that it took respond, after " + action, "0 2 ", d.responders());
            due("work bits of a taken word are 0, after " + action, 0, d.bits(0, 24, 31));
            due("work bits of another word are 0, after " + action, 0, d.bits(1, 24, 31));
            due("bit 23 is no work bit, after " + action, "true", d.bit(0, 23));
            due("field bits of another word stay, after " + action, "15", d.get(1, 'a'));
        }
        for (String action : new String[] {"count", "list a", "sum a", "set b = 1"}) {
            Driver d = Driver.table(2);
            d.search(0, 0, false);
            d.multi(WORK, -1);
            due("it took none: " + action, "0", d.tell("where a = 9 " + action));
            due("it took none, so none responds: " + action, "", d.responders());
            due("it took none, work bits are 0: " + action, 0, d.bits(1, 24, 31));
        }
    }

    private static void theExceptionNamedFirst() {
        Driver d = Driver.table(2);
        due("put: no word, no field, does not fit", Check.ARGUMENT, d.put(32, 'z', 99));
        due("put: no word, does not fit", Check.ARGUMENT, d.put(-1, 'a', 99));
        due("put: no field, word is free", Check.ARGUMENT, d.put(2, 'z', 0));
        due("put: no field, does not fit", Check.ARGUMENT, d.put(0, 'z', 99999));
        due("put: word is free, does not fit", Check.ELEMENT, d.put(2, 'a', 99));
        due("put: word is free", Check.ELEMENT, d.put(2, 'a', 1));
        due("put: does not fit", Check.STATE, d.put(1, 'a', 16));
        due("put: fits", Check.OK, d.put(1, 'a', 15));
        due("get: no word, no field", Check.ARGUMENT, d.get(32, 'z'));
        due("get: no field, word is free", Check.ARGUMENT, d.get(2, 'z'));
        due("get: word is free", Check.ELEMENT, d.get(2, 'a'));
        due("remove: no word", Check.ARGUMENT, d.remove(32));
        due("remove: word is free", Check.ELEMENT, d.remove(31));
        due("run: no statement, max takes no word", Check.ARGUMENT, d.tell("where a = 9 max a a"));
        due("run: max takes no word", Check.ELEMENT, d.tell("where a = 9 max a"));
        Driver e = new Driver();
        for (int i = 0; i < 6; i++) {
            e.field((char) ('a' + i), i, 1, false);
        }
        due("field: a seventh, no letter", Check.ARGUMENT, e.field('A', 10, 1, false));
        due("field: a seventh, a name that one has", Check.ARGUMENT, e.field('f', 10, 1, false));
        due("field: a seventh, first", Check.ARGUMENT, e.field('g', -1, 1, false));
        due("field: a seventh, first", Check.ARGUMENT, e.field('g', 24, 1, false));
        due("field: a seventh, width", Check.ARGUMENT, e.field('g', 10, 0, false));
        due("field: a seventh, width", Check.ARGUMENT, e.field('g', 10, 11, false));
        due("field: a seventh, on bit 24", Check.ARGUMENT, e.field('g', 15, 10, false));
        due("field: a seventh, on another", Check.ARGUMENT, e.field('g', 5, 2, false));
        due("field: a seventh", Check.STATE, e.field('g', 6, 2, false));
    }
}
