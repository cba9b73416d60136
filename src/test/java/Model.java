import java.util.ArrayDeque;
import java.util.ArrayList;
import java.util.Deque;
import java.util.List;
import java.util.NoSuchElementException;
import java.util.TreeSet;
import java.util.regex.Matcher;
import java.util.regex.Pattern;

/**
 * The document, done another way than in BitLoom: places by an automaton with a stack, values by adding up bits,
 * conditions by rewriting them as texts of T and F, one word at a time.
 */
final class Model {
    static int statements = 0;
    static int faults = 0;

    private static final Pattern TOKEN = Pattern.compile("[a-z]+|[0-9]+|[^ ]");
    private static final List<String> ACTIONS = List.of("set", "max", "min", "sum", "list", "count");

    /** What a token has to be at a point of the text. */
    private enum At {
        START, ONE, LEFT_NUMBER, COMPARE, RIGHT, RIGHT_NUMBER, BEHIND_ONE,
        SUBJECT, TARGET, EQUALS, FIRST, FIRST_NUMBER, SIGN, SECOND, SECOND_NUMBER, COMMA, DONE, WRONG
    }

    static final class Field {
        char name;
        int first;
        int width;
        boolean signed;
    }

    final List<Field> fields = new ArrayList<>();
    final int[] bits = new int[32];
    final TreeSet<Integer> used = new TreeSet<>();
    final TreeSet<Integer> responders = new TreeSet<>();
    final StringBuilder text = new StringBuilder();
    final List<Integer> list = new ArrayList<>();
    int place = -1;
    int refused = 0;

    private final Deque<Character> open = new ArrayDeque<>();
    private int changes;

    Object field(char name, int first, int width, boolean signed) {
        require(name >= 'a' && name <= 'z' && first >= 0 && first <= 23 && width >= 1 && width <= 10);
        for (int k = first; k < first + width; k++) {
            require(k < 24);
            for (Field f : fields) {
                require(f.name != name && (k < f.first || k >= f.first + f.width));
            }
        }
        if (fields.size() == 6) {
            throw new IllegalStateException();
        }
        Field f = new Field();
        f.name = name;
        f.first = first;
        f.width = width;
        f.signed = signed;
        fields.add(f);
        return null;
    }

    int insert() {
        for (int word = 0; word < 32; word++) {
            if (used.add(word)) {
                return word;
            }
        }
        throw new NoSuchElementException();
    }

    Object remove(int word) {
        require(word >= 0 && word < 32);
        if (!used.remove(word)) {
            throw new NoSuchElementException();
        }
        responders.remove(word);
        bits[word] = 0;
        return null;
    }

    Object put(int word, char name, int v) {
        Field f = look(word, name);
        if (!fits(f, v)) {
            throw new IllegalStateException();
        }
        bits[word] = with(f, bits[word], v);
        return null;
    }

    Object get(int word, char name) {
        Field f = look(word, name);
        return value(f, bits[word]);
    }

    int search(int mask, int pattern, boolean among) {
        TreeSet<Integer> found = new TreeSet<>();
        for (int word : among ? responders : used) {
            boolean same = true;
            for (int k = 0; k < 32; k++) {
                same &= !isOne(mask, k) || isOne(bits[word], k) == isOne(pattern, k);
            }
            if (same) {
                found.add(word);
            }
        }
        responders.clear();
        responders.addAll(found);
        return found.size();
    }

    Object multi(int mask, int pattern) {
        require((mask & 0xFFFFFF) == 0);
        for (int word : responders) {
            for (int k = 24; k < 32; k++) {
                if (isOne(mask, k)) {
                    bits[word] = bits[word] & ~(1 << k) | pattern & 1 << k;
                }
            }
        }
        return null;
    }

    int first() {
        Integer word = responders.pollFirst();
        return word == null ? -1 : word;
    }

    boolean write(long characters) {
        StringBuilder more = new StringBuilder();
        for (long rest = characters; rest != 0; rest >>>= 8) {
            int code = (int) (rest & 255);
            if (code != 0 && (code < 32 || code > 126)) {
                return false;
            }
            more.append(code == 0 ? "" : String.valueOf((char) code));
        }
        if (text.length() + more.length() > 100) {
            return false;
        }
        text.append(more);
        return true;
    }

    int wipe() {
        int length = text.length();
        text.setLength(0);
        return length;
    }

    int run() {
        List<String> tokens = new ArrayList<>();
        place = findPlace(tokens);
        faults += place >= 0 ? 1 : 0;
        require(place < 0);
        statements++;
        int from = 0;
        while (!ACTIONS.contains(tokens.get(from))) {
            from++;
        }
        List<Integer> taken = new ArrayList<>();
        for (int word : used) {
            if (from == 0 || isTrue(tokens.subList(1, from), bits[word])) {
                taken.add(word);
            }
        }
        int answer = act(tokens.subList(from, tokens.size()), taken);
        responders.clear();
        responders.addAll(taken);
        for (int word = 0; word < 32; word++) {
            bits[word] &= 0xFFFFFF;
        }
        text.setLength(0);
        return answer;
    }

    int listed(int i) {
        if (i < 0 || i >= list.size()) {
            throw new IndexOutOfBoundsException();
        }
        return list.get(i);
    }

    String listText() {
        StringBuilder s = new StringBuilder();
        list.forEach(word -> s.append(word).append(' '));
        return s.toString();
    }

    private static void require(boolean legal) {
        if (!legal) {
            throw new IllegalArgumentException();
        }
    }

    private static boolean isOne(int bits, int k) {
        return (bits & 1 << k) != 0;
    }

    private Field look(int word, char name) {
        Field f = named(String.valueOf(name));
        require(word >= 0 && word < 32 && f != null);
        if (!used.contains(word)) {
            throw new NoSuchElementException();
        }
        return f;
    }

    private Field named(String name) {
        return fields.stream().filter(f -> name.equals(String.valueOf(f.name))).findAny().orElse(null);
    }

    private static int value(Field f, int bits) {
        int value = 0;
        for (int i = 0; i < f.width; i++) {
            int worth = i == f.width - 1 && f.signed ? -(1 << i) : 1 << i;
            value += isOne(bits, f.first + i) ? worth : 0;
        }
        return value;
    }

    private static boolean fits(Field f, int v) {
        for (int some = 0; some < 1 << f.width; some++) {
            if (value(f, some << f.first) == v) {
                return true;
            }
        }
        return false;
    }

    private static int with(Field f, int bits, int v) {
        int result = bits;
        for (int i = 0; i < f.width; i++) {
            int one = 1 << f.first + i;
            result = (v >> i & 1) != 0 ? result | one : result & ~one;
        }
        return result;
    }

    private int act(List<String> action, List<Integer> taken) {
        String verb = action.get(0);
        if (verb.equals("set")) {
            return setAll(action, taken);
        }
        if (verb.equals("count")) {
            refused = 0;
            return taken.size();
        }
        Field f = named(action.get(1));
        if (taken.isEmpty() && (verb.equals("max") || verb.equals("min"))) {
            throw new NoSuchElementException();
        }
        refused = 0;
        List<Integer> sorted = new ArrayList<>(taken);
        sorted.sort((v, w) -> value(f, bits[v]) - value(f, bits[w]));
        switch (verb) {
            case "max": return value(f, bits[sorted.get(sorted.size() - 1)]);
            case "min": return value(f, bits[sorted.get(0)]);
            case "sum": return sorted.stream().mapToInt(word -> value(f, bits[word])).sum();
            default:
                list.clear();
                list.addAll(sorted);
                return list.size();
        }
    }

    private int setAll(List<String> action, List<Integer> taken) {
        refused = 0;
        String[] parts = String.join(" ", action.subList(1, action.size())).split(",");
        for (int word : taken) {
            int before = bits[word];
            int after = before;
            boolean all = true;
            for (String part : parts) {
                String[] sides = part.split("=");
                Field f = named(sides[0].trim());
                int result = result(sides[1].trim(), before);
                all &= fits(f, result);
                after = with(f, after, result);
            }
            bits[word] = all ? after : before;
            refused += all ? 0 : 1;
        }
        return taken.size() - refused;
    }

    private int result(String sum, int before) {
        Matcher m = Pattern.compile("(-? ?\\w+)(?: ([-+*]) (.*))?").matcher(sum);
        m.matches();
        int left = operand(m.group(1), before);
        if (m.group(2) == null) {
            return left;
        }
        int right = operand(m.group(3), before);
        return m.group(2).equals("+") ? left + right : m.group(2).equals("-") ? left - right : left * right;
    }

    private int operand(String s, int before) {
        Field f = named(s);
        return f != null ? value(f, before) : Integer.parseInt(s.replace(" ", ""));
    }

    private boolean isTrue(List<String> condition, int before) {
        String s = String.join(" ", condition);
        Matcher m = Pattern.compile("((?:- )?\\w+) ([<=>]) ((?:- )?\\w+)").matcher(s);
        s = m.replaceAll(c -> {
            int left = operand(c.group(1), before);
            int right = operand(c.group(3), before);
            boolean holds = c.group(2).equals("<") ? left < right : c.group(2).equals(">") ? left > right : left == right;
            return holds ? "T" : "F";
        }).replace(" ", "");
        while (s.length() > 1) {
            String t = s.replace("!T", "F").replace("!F", "T").replace("(T)", "T").replace("(F)", "F");
            if (t.equals(s)) {
                t = s.replaceFirst("T&T", "T").replaceFirst("F&[TF]|T&F", "F");
            }
            if (t.equals(s)) {
                t = s.replaceFirst("(?<!&)F\\|F(?!&)", "F");
            }
            if (t.equals(s)) {
                t = s.replaceFirst("(?<!&)(T\\|[TF]|F\\|T)(?!&)", "T");
            }
            if (t.equals(s)) {
                throw new AssertionError("the model can't reduce " + s);
            }
            s = t;
        }
        return s.equals("T");
    }

    private int findPlace(List<String> tokens) {
        Matcher m = TOKEN.matcher(text);
        At at = At.START;
        open.clear();
        changes = 0;
        while (m.find()) {
            tokens.add(m.group());
            at = next(at, m.group());
            if (at == At.WRONG) {
                return m.start();
            }
        }
        return at == At.DONE || at == At.SIGN || at == At.COMMA ? -1 : text.length();
    }

    private At next(At at, String token) {
        switch (at) {
            case START: return token.equals("where") ? At.ONE : action(token);
            case ONE: return token.equals("!") || token.equals("(") ? opened(token) : operand(token, At.LEFT_NUMBER, At.COMPARE);
            case LEFT_NUMBER: return isNumber(token) ? At.COMPARE : At.WRONG;
            case COMPARE: return token.matches("[<=>]") ? At.RIGHT : At.WRONG;
            case RIGHT: return closedNots(operand(token, At.RIGHT_NUMBER, At.BEHIND_ONE));
            case RIGHT_NUMBER: return closedNots(isNumber(token) ? At.BEHIND_ONE : At.WRONG);
            case BEHIND_ONE: return behindOne(token);
            case SUBJECT: return named(token) != null ? At.DONE : At.WRONG;
            case TARGET: return named(token) != null ? At.EQUALS : At.WRONG;
            case EQUALS: return token.equals("=") ? At.FIRST : At.WRONG;
            case FIRST: return operand(token, At.FIRST_NUMBER, At.SIGN);
            case FIRST_NUMBER: return isNumber(token) ? At.SIGN : At.WRONG;
            case SIGN: return token.matches("[-+*]") ? At.SECOND : comma(token);
            case SECOND: return operand(token, At.SECOND_NUMBER, At.COMMA);
            case SECOND_NUMBER: return isNumber(token) ? At.COMMA : At.WRONG;
            case COMMA: return comma(token);
            default: return At.WRONG;
        }
    }

    private static At action(String token) {
        if (!ACTIONS.contains(token)) {
            return At.WRONG;
        }
        return token.equals("set") ? At.TARGET : token.equals("count") ? At.DONE : At.SUBJECT;
    }

    private At opened(String token) {
        open.push(token.charAt(0));
        return open.size() > 8 ? At.WRONG : At.ONE;
    }

    private At operand(String token, At behindMinus, At behind) {
        if (token.equals("-")) {
            return behindMinus;
        }
        return isNumber(token) || named(token) != null ? behind : At.WRONG;
    }

    private At closedNots(At next) {
        while (next == At.BEHIND_ONE && !open.isEmpty() && open.peek() == '!') {
            open.pop();
        }
        return next;
    }

    private At behindOne(String token) {
        if (token.equals("&") || token.equals("|")) {
            return At.ONE;
        }
        if (open.isEmpty()) {
            return action(token);
        }
        if (!token.equals(")")) {
            return At.WRONG;
        }
        open.pop();
        return closedNots(At.BEHIND_ONE);
    }

    private At comma(String token) {
        changes++;
        return token.equals(",") && changes < 2 ? At.TARGET : At.WRONG;
    }

    private static boolean isNumber(String token) {
        return token.matches("[0-9]{1,3}");
    }
}
