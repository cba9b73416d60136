import java.util.NoSuchElementException;

/**
 * A memory of 32 words that is asked for what it holds instead of where.
 *
 * A set of words is an int throughout, bit w for word w, so that a search, a condition and a
 * statement treat all words at once.
 */
public final class BitLoom {
    private static final int WORDS = 32;
    private static final int ALL_WORDS = -1;
    private static final int BITS = 32;
    private static final int FIELD_BITS = 24;
    private static final int WORK_BITS = -1 << FIELD_BITS;
    private static final int MOST_FIELDS = 6;
    private static final int MOST_WIDTH = 10;
    private static final int LEAST_VALUE = -(1 << MOST_WIDTH - 1);
    private static final int GREATEST_VALUE = (1 << MOST_WIDTH) - 1;
    private static final int MOST_CHARACTERS = 100;
    private static final int CHARACTERS_OF_A_LONG = 8;
    private static final int MOST_DECIMALS = 3;
    private static final int MOST_OPEN = 8;
    private static final int NONE = -1;
    private static final Action[] ACTIONS = Action.values();

    private final Fields fields;
    private final Words words;
    private final Text text;
    private final Statement statement;
    private final int[] list;
    private int listLength;
    private int refusals;

    public BitLoom() {
        fields = new Fields();
        words = new Words();
        text = new Text();
        statement = new Statement(fields, words, text);
        list = new int[WORDS];
    }

    public void field(char name, int first, int width, boolean signed)
            throws IllegalArgumentException, IllegalStateException {
        if (!fields.isNewName(name) || !fields.isOpenGround(first, width)) {
            throw new IllegalArgumentException();
        }
        if (fields.isFull()) {
            throw new IllegalStateException();
        }
        fields.append(name, first, width, signed);
    }

    public int insert() throws NoSuchElementException {
        int word = Words.lowestOf(words.free());
        if (word == NONE) {
            throw new NoSuchElementException();
        }
        words.occupy(word);
        return word;
    }

    public void remove(int word) throws IllegalArgumentException, NoSuchElementException {
        requireWord(word);
        requireInUse(word);
        words.release(word);
    }

    public void put(int word, char name, int v)
            throws IllegalArgumentException, NoSuchElementException, IllegalStateException {
        requireWord(word);
        int field = requireField(name);
        requireInUse(word);
        if (!fields.fits(field, v)) {
            throw new IllegalStateException();
        }
        words.replace(word, fields.withValue(field, words.bitsOf(word), v));
    }

    public int get(int word, char name) throws IllegalArgumentException, NoSuchElementException {
        requireWord(word);
        int field = requireField(name);
        requireInUse(word);
        return fields.valueIn(field, words.bitsOf(word));
    }

    public boolean bit(int word, int k) throws IllegalArgumentException {
        requireWord(word);
        if (k < 0 || k >= BITS) {
            throw new IllegalArgumentException();
        }
        return (words.bitsOf(word) >>> k & 1) == 1;
    }

    public int search(int mask, int pattern, boolean among) {
        int searched = among ? words.responding() : words.inUse();
        words.respondOnly(words.matching(searched, mask, pattern));
        return Integer.bitCount(words.responding());
    }

    public void multi(int mask, int pattern) throws IllegalArgumentException {
        if ((mask & ~WORK_BITS) != 0) {
            throw new IllegalArgumentException();
        }
        words.overwrite(words.responding(), mask, pattern);
    }

    public boolean responds(int word) throws IllegalArgumentException {
        requireWord(word);
        return Words.holds(words.responding(), word);
    }

    public int first() {
        int word = Words.lowestOf(words.responding());
        if (word != NONE) {
            words.respondOnly(words.responding() & ~(1 << word));
        }
        return word;
    }

    public boolean write(long characters) {
        if (!text.canTake(characters)) {
            return false;
        }
        text.append(characters);
        return true;
    }

    public int wipe() {
        int length = text.length();
        text.clear();
        return length;
    }

    public int run() throws IllegalArgumentException, NoSuchElementException {
        statement.read();
        if (statement.lacksWord()) {
            throw new NoSuchElementException();
        }
        int taken = statement.taken();
        int answer = carryOut(taken);
        words.respondOnly(taken);
        words.overwrite(ALL_WORDS, WORK_BITS, 0);
        text.clear();
        return answer;
    }

    public int place() {
        return statement.wrongAt();
    }

    public int refused() {
        return refusals;
    }

    public int listed(int i) throws IndexOutOfBoundsException {
        if (i < 0 || i >= listLength) {
            throw new IndexOutOfBoundsException();
        }
        return list[i];
    }

    private void requireWord(int word) {
        if (word < 0 || word >= WORDS) {
            throw new IllegalArgumentException();
        }
    }

    private int requireField(char name) {
        int field = fields.indexOf(name);
        if (field == NONE) {
            throw new IllegalArgumentException();
        }
        return field;
    }

    private void requireInUse(int word) {
        if (!Words.holds(words.inUse(), word)) {
            throw new NoSuchElementException();
        }
    }

    private int carryOut(int taken) {
        int subject = statement.subject();
        refusals = 0;
        switch (statement.action()) {
            case SET:
                return changeAll(taken);
            case MAX:
                return greatest(subject, taken);
            case MIN:
                return least(subject, taken);
            case SUM:
                return total(subject, taken);
            case LIST:
                return listAll(subject, taken);
            default:
                return Integer.bitCount(taken);
        }
    }

    private int valueOf(int field, int word) {
        return fields.valueIn(field, words.bitsOf(word));
    }

    private int greatest(int field, int taken) {
        int found = LEAST_VALUE;
        for (int word = 0; word < WORDS; word++) {
            if (Words.holds(taken, word)) {
                found = Math.max(found, valueOf(field, word));
            }
        }
        return found;
    }

    private int least(int field, int taken) {
        int found = GREATEST_VALUE;
        for (int word = 0; word < WORDS; word++) {
            if (Words.holds(taken, word)) {
                found = Math.min(found, valueOf(field, word));
            }
        }
        return found;
    }

    private int total(int field, int taken) {
        int sum = 0;
        for (int word = 0; word < WORDS; word++) {
            if (Words.holds(taken, word)) {
                sum += valueOf(field, word);
            }
        }
        return sum;
    }

    private int listAll(int field, int taken) {
        listLength = 0;
        for (int word = 0; word < WORDS; word++) {
            if (Words.holds(taken, word)) {
                sortIn(word, field);
            }
        }
        return listLength;
    }

    /** Words come by rising numbers, so one that stops behind its equals keeps their order. */
    private void sortIn(int word, int field) {
        int value = valueOf(field, word);
        int at = listLength;
        while (at > 0 && valueOf(field, list[at - 1]) > value) {
            list[at] = list[at - 1];
            at--;
        }
        list[at] = word;
        listLength++;
    }

    private int changeAll(int taken) {
        int changed = 0;
        for (int word = 0; word < WORDS; word++) {
            if (Words.holds(taken, word)) {
                int before = words.bitsOf(word);
                if (statement.canChange(before)) {
                    words.replace(word, statement.changed(before));
                    changed++;
                } else {
                    refusals++;
                }
            }
        }
        return changed;
    }

    /** What a statement can ask for, each by its word in the text. */
    private enum Action {
        SET("set"), MAX("max"), MIN("min"), SUM("sum"), LIST("list"), COUNT("count");

        private final String word;

        Action(String word) {
            this.word = word;
        }

        String word() {
            return word;
        }
    }

    /** Where the fields lie in the bits of a word, and what these are worth. */
    private static final class Fields {
        private final char[] names;
        private final int[] firsts;
        private final int[] widths;
        private final boolean[] signs;
        private int count;
        private int covered;

        Fields() {
            names = new char[MOST_FIELDS];
            firsts = new int[MOST_FIELDS];
            widths = new int[MOST_FIELDS];
            signs = new boolean[MOST_FIELDS];
        }

        boolean isFull() {
            return count >= MOST_FIELDS;
        }

        boolean isNewName(char name) {
            return name >= 'a' && name <= 'z' && indexOf(name) == NONE;
        }

        /** The ranges are looked at first: a sum or a shift of wild numbers would wrap around. */
        boolean isOpenGround(int first, int width) {
            if (first < 0 || first >= FIELD_BITS || width < 1 || width > MOST_WIDTH) {
                return false;
            }
            return first + width <= FIELD_BITS && (covered & ground(first, width)) == 0;
        }

        void append(char name, int first, int width, boolean signed) {
            names[count] = name;
            firsts[count] = first;
            widths[count] = width;
            signs[count] = signed;
            count++;
            covered |= ground(first, width);
        }

        int indexOf(char name) {
            for (int i = 0; i < count; i++) {
                if (names[i] == name) {
                    return i;
                }
            }
            return NONE;
        }

        boolean fits(int field, int value) {
            int size = 1 << widths[field];
            int least = signs[field] ? -(size >> 1) : 0;
            return value >= least && value < least + size;
        }

        int valueIn(int field, int bits) {
            int size = 1 << widths[field];
            int value = bits >>> firsts[field] & size - 1;
            return signs[field] && value >= size >> 1 ? value - size : value;
        }

        int withValue(int field, int bits, int value) {
            int ground = ground(firsts[field], widths[field]);
            return bits & ~ground | value << firsts[field] & ground;
        }

        private static int ground(int first, int width) {
            return (1 << width) - 1 << first;
        }
    }

    /** The words, of which the free ones have no bit that is 1 and do not respond. */
    private static final class Words {
        private final int[] bits;
        private int inUse;
        private int responding;

        Words() {
            bits = new int[WORDS];
        }

        static boolean holds(int set, int word) {
            return (set >>> word & 1) == 1;
        }

        static int lowestOf(int set) {
            for (int word = 0; word < WORDS; word++) {
                if (holds(set, word)) {
                    return word;
                }
            }
            return NONE;
        }

        int free() {
            return ~inUse;
        }

        int inUse() {
            return inUse;
        }

        int responding() {
            return responding;
        }

        int bitsOf(int word) {
            return bits[word];
        }

        void replace(int word, int newBits) {
            bits[word] = newBits;
        }

        void occupy(int word) {
            inUse |= 1 << word;
        }

        void release(int word) {
            inUse &= ~(1 << word);
            responding &= ~(1 << word);
            bits[word] = 0;
        }

        void respondOnly(int set) {
            responding = set;
        }

        int matching(int searched, int mask, int pattern) {
            int found = 0;
            for (int word = 0; word < WORDS; word++) {
                if (holds(searched, word) && ((bits[word] ^ pattern) & mask) == 0) {
                    found |= 1 << word;
                }
            }
            return found;
        }

        void overwrite(int set, int mask, int pattern) {
            for (int word = 0; word < WORDS; word++) {
                if (holds(set, word)) {
                    bits[word] = bits[word] & ~mask | pattern & mask;
                }
            }
        }
    }

    /** The characters of the text. */
    private static final class Text {
        private static final int LOWEST = 32;
        private static final int HIGHEST = 126;

        private final char[] characters;
        private int length;

        Text() {
            characters = new char[MOST_CHARACTERS];
        }

        int length() {
            return length;
        }

        /** Behind the end stands a character that no text has. */
        char at(int i) {
            return i >= 0 && i < length ? characters[i] : 0;
        }

        void clear() {
            length = 0;
        }

        boolean canTake(long packed) {
            int more = 0;
            for (int i = 0; i < CHARACTERS_OF_A_LONG; i++) {
                int code = codeOf(packed, i);
                if (code != 0) {
                    if (code < LOWEST || code > HIGHEST) {
                        return false;
                    }
                    more++;
                }
            }
            return length + more <= MOST_CHARACTERS;
        }

        void append(long packed) {
            for (int i = 0; i < CHARACTERS_OF_A_LONG; i++) {
                int code = codeOf(packed, i);
                if (code != 0 && length < MOST_CHARACTERS) {
                    characters[length] = (char) code;
                    length++;
                }
            }
        }

        private static int codeOf(long packed, int i) {
            return (int) (packed >>> 8 * i & 255);
        }
    }

    /**
     * The text cut into tokens, and the one that is looked at. A token's kind is a character: a
     * sign is its own kind. What is no token is a FAULT, which can stand nowhere.
     */
    private static final class Tokens {
        private static final char WORD = 'a';
        private static final char NUMBER = '0';
        private static final char FAULT = '?';
        private static final char END = '.';
        private static final String SIGNS = "<=>&|!(),+-*";
        private static final int MOST_TOKENS = MOST_CHARACTERS + 1;

        private final Text text;
        private final char[] kinds;
        private final int[] starts;
        private final int[] ends;
        private int count;
        private int at;

        Tokens(Text text) {
            this.text = text;
            kinds = new char[MOST_TOKENS];
            starts = new int[MOST_TOKENS];
            ends = new int[MOST_TOKENS];
        }

        void cut() {
            count = 0;
            at = 0;
            int from = 0;
            for (int n = 0; n < MOST_CHARACTERS && from < text.length(); n++) {
                from = text.at(from) == ' ' ? from + 1 : cutOne(from);
            }
            append(END, text.length(), text.length());
        }

        void advance() {
            if (at < count - 1) {
                at++;
            }
        }

        int start() {
            return starts[at];
        }

        boolean isEnd() {
            return kinds[at] == END;
        }

        boolean isSign(char sign) {
            return kinds[at] == sign;
        }

        boolean isNumber() {
            return kinds[at] == NUMBER;
        }

        int number() {
            int number = 0;
            for (int i = starts[at]; i < ends[at]; i++) {
                number = 10 * number + (text.at(i) - '0');
            }
            return number;
        }

        boolean isWord(String word) {
            if (kinds[at] != WORD || ends[at] - starts[at] != word.length()) {
                return false;
            }
            for (int i = 0; i < word.length(); i++) {
                if (text.at(starts[at] + i) != word.charAt(i)) {
                    return false;
                }
            }
            return true;
        }

        boolean isLetter() {
            return kinds[at] == WORD && ends[at] - starts[at] == 1;
        }

        char letter() {
            return text.at(starts[at]);
        }

        private int cutOne(int from) {
            char c = text.at(from);
            if (isBetween('a', c, 'z')) {
                return append(WORD, from, endOf(from, 'a', 'z'));
            }
            if (isBetween('0', c, '9')) {
                int end = endOf(from, '0', '9');
                return append(end - from <= MOST_DECIMALS ? NUMBER : FAULT, from, end);
            }
            return append(SIGNS.indexOf(c) >= 0 ? c : FAULT, from, from + 1);
        }

        private int endOf(int from, char low, char high) {
            int end = from;
            while (end < text.length() && isBetween(low, text.at(end), high)) {
                end++;
            }
            return end;
        }

        private static boolean isBetween(char low, char c, char high) {
            return low <= c && c <= high;
        }

        private int append(char kind, int start, int end) {
            if (count < MOST_TOKENS) {
                kinds[count] = kind;
                starts[count] = start;
                ends[count] = end;
                count++;
            }
            return end;
        }
    }

    /** A field, or a number. */
    private static final class Operand {
        private final Fields fields;
        private int field;
        private int number;

        Operand(Fields fields) {
            this.fields = fields;
            field = NONE;
        }

        void becomeField(int newField) {
            field = newField;
        }

        void becomeNumber(int newNumber) {
            field = NONE;
            number = newNumber;
        }

        int valueIn(int bits) {
            return field == NONE ? number : fields.valueIn(field, bits);
        }
    }

    /** Two operands with a sign between them; without one the second operand means nothing. */
    private static final class Pair {
        private static final char NO_SIGN = ' ';

        private final Operand left;
        private final Operand right;
        private char sign;

        Pair(Fields fields) {
            left = new Operand(fields);
            right = new Operand(fields);
            sign = NO_SIGN;
        }

        boolean isTrueIn(int bits) {
            int order = Integer.compare(left.valueIn(bits), right.valueIn(bits));
            if (sign == '<') {
                return order < 0;
            }
            return sign == '>' ? order > 0 : order == 0;
        }

        int resultIn(int bits) {
            int value = left.valueIn(bits);
            if (sign == '+') {
                return value + right.valueIn(bits);
            }
            if (sign == '-') {
                return value - right.valueIn(bits);
            }
            return sign == '*' ? value * right.valueIn(bits) : value;
        }
    }

    /** A field that is to be set, and to what. */
    private static final class Change {
        private final Fields fields;
        private final Pair operands;
        private int target;

        Change(Fields fields) {
            this.fields = fields;
            operands = new Pair(fields);
        }

        boolean fitsIn(int before) {
            return fields.fits(target, operands.resultIn(before));
        }

        /** Another change may have changed bits already: what is looked at is still before. */
        int appliedTo(int bits, int before) {
            return fields.withValue(target, bits, operands.resultIn(before));
        }
    }

    /**
     * Reads the text as a statement. Conditions are answered while they are read, since that
     * changes no word; actions are only kept, since what follows may still be wrong.
     */
    private static final class Statement {
        private final Fields fields;
        private final Words words;
        private final Tokens tokens;
        private final Pair compared;
        private final Change change;
        private final Change secondChange;
        private boolean hasSecondChange;
        private Action action;
        private int subject;
        private int taken;
        private int wrongAt;

        Statement(Fields fields, Words words, Text text) {
            this.fields = fields;
            this.words = words;
            tokens = new Tokens(text);
            compared = new Pair(fields);
            change = new Change(fields);
            secondChange = new Change(fields);
            action = Action.COUNT;
            wrongAt = NONE;
        }

        int wrongAt() {
            return wrongAt;
        }

        int taken() {
            return taken;
        }

        Action action() {
            return action;
        }

        int subject() {
            return subject;
        }

        boolean lacksWord() {
            return taken == 0 && (action == Action.MAX || action == Action.MIN);
        }

        boolean canChange(int before) {
            return change.fitsIn(before) && (!hasSecondChange || secondChange.fitsIn(before));
        }

        int changed(int before) {
            int bits = change.appliedTo(before, before);
            return hasSecondChange ? secondChange.appliedTo(bits, before) : bits;
        }

        void read() {
            wrongAt = NONE;
            tokens.cut();
            taken = words.inUse();
            if (tokens.isWord("where")) {
                tokens.advance();
                taken &= readCondition(0);
            }
            readAction();
            if (!tokens.isEnd()) {
                refuse();
            }
        }

        private void refuse() {
            wrongAt = tokens.start();
            throw new IllegalArgumentException();
        }

        private int readCondition(int open) {
            int set = readClause(open);
            for (int n = 0; n < MOST_CHARACTERS && tokens.isSign('|'); n++) {
                tokens.advance();
                set |= readClause(open);
            }
            return set;
        }

        private int readClause(int open) {
            int set = readOne(open);
            for (int n = 0; n < MOST_CHARACTERS && tokens.isSign('&'); n++) {
                tokens.advance();
                set &= readOne(open);
            }
            return set;
        }

        private int readOne(int open) {
            boolean not = tokens.isSign('!');
            if (!not && !tokens.isSign('(')) {
                return readComparison();
            }
            if (open >= MOST_OPEN) {
                refuse();
            }
            tokens.advance();
            if (not) {
                return ~readOne(open + 1);
            }
            int set = readCondition(open + 1);
            passSign(')');
            return set;
        }

        private int readComparison() {
            readOperand(compared.left);
            compared.sign = readSign('<', '=', '>');
            if (compared.sign == Pair.NO_SIGN) {
                refuse();
            }
            readOperand(compared.right);
            int set = 0;
            for (int word = 0; word < WORDS; word++) {
                if (compared.isTrueIn(words.bitsOf(word))) {
                    set |= 1 << word;
                }
            }
            return set;
        }

        private void readAction() {
            readVerb();
            if (action == Action.SET) {
                readChange(change);
                hasSecondChange = tokens.isSign(',');
                if (hasSecondChange) {
                    tokens.advance();
                    readChange(secondChange);
                }
            } else if (action != Action.COUNT) {
                subject = readField();
            }
        }

        private void readVerb() {
            int found = NONE;
            for (int i = 0; i < ACTIONS.length; i++) {
                if (tokens.isWord(ACTIONS[i].word())) {
                    found = i;
                }
            }
            if (found == NONE) {
                refuse();
            } else {
                action = ACTIONS[found];
            }
            tokens.advance();
        }

        private void readChange(Change into) {
            into.target = readField();
            passSign('=');
            readOperand(into.operands.left);
            into.operands.sign = readSign('+', '-', '*');
            if (into.operands.sign != Pair.NO_SIGN) {
                readOperand(into.operands.right);
            }
        }

        private void readOperand(Operand into) {
            boolean negative = tokens.isSign('-');
            if (negative) {
                tokens.advance();
            }
            if (tokens.isNumber()) {
                into.becomeNumber(negative ? -tokens.number() : tokens.number());
                tokens.advance();
            } else if (negative) {
                refuse();
            } else {
                into.becomeField(readField());
            }
        }

        private int readField() {
            int field = tokens.isLetter() ? fields.indexOf(tokens.letter()) : NONE;
            if (field == NONE) {
                refuse();
            }
            tokens.advance();
            return field;
        }

        private void passSign(char sign) {
            if (!tokens.isSign(sign)) {
                refuse();
            }
            tokens.advance();
        }

        private char readSign(char one, char two, char three) {
            char sign = Pair.NO_SIGN;
            if (tokens.isSign(one)) {
                sign = one;
            } else if (tokens.isSign(two)) {
                sign = two;
            } else if (tokens.isSign(three)) {
                sign = three;
            }
            if (sign != Pair.NO_SIGN) {
                tokens.advance();
            }
            return sign;
        }
    }
}
