import java.util.ArrayList;
import java.util.List;

/** Reads the text of an act plainly, and throws at its first fault. */
final class PlainText {
    private static final List<String> NAMES =
            List.of("gas", "cracks", "size", "week", "people", "heard", "ask", "kin");
    private static final List<String> SORTS = List.of("shut", "worth", "whose", "yes");
    private static final List<String> SIGNS =
            List.of("<=", ">=", "<", ">", "=", "#", "+", "-", "*", "/", "(", ")", ";");

    private final String text;
    private int at;
    private int open;
    private String sort;

    PlainText(String text) {
        this.text = text;
    }

    private int start() {
        int i = at;
        while (i < text.length() && (text.charAt(i) == ' ' || text.charAt(i) == '\n')) {
            i++;
        }
        return i;
    }

    /** The token that comes next: empty at the end, "?" if it is none. */
    private String peek() {
        int i = start();
        int end = i;
        if (i == text.length()) {
            return "";
        }
        while (end < text.length() && isLetter(text.charAt(end))) {
            end++;
        }
        if (end == i) {
            while (end < text.length() && text.charAt(end) >= '0' && text.charAt(end) <= '9') {
                end++;
            }
        }
        if (end > i) {
            return text.substring(i, end);
        }
        for (String sign : SIGNS) {
            if (text.startsWith(sign, i)) {
                return sign;
            }
        }
        return "?";
    }

    private static boolean isLetter(char c) {
        return "abcdefghijklmnopqrstuvwxyzABCDEFGHIJKLMNOPQRSTUVWXYZ".indexOf(c) >= 0;
    }

    private String take() {
        String token = peek();
        at = start() + token.length();
        return token;
    }

    private Plain.Faulty faulty(int kind) {
        return new Plain.Faulty(kind, start());
    }

    private static boolean isNumber(String token) {
        return !token.isEmpty() && token.charAt(0) >= '0' && token.charAt(0) <= '9';
    }

    private int number(int greatest) {
        String token = peek();
        if (!isNumber(token)) {
            throw faulty(1);
        }
        if (new java.math.BigInteger(token).compareTo(java.math.BigInteger.valueOf(greatest)) > 0) {
            throw faulty(2);
        }
        take();
        return Integer.parseInt(token);
    }

    List<Plain.Clause> clauses() {
        List<Plain.Clause> list = new ArrayList<>();
        List<String> seen = new ArrayList<>();
        while (!peek().isEmpty()) {
            sort = peek();
            if (!SORTS.contains(sort)) {
                throw faulty(1);
            }
            if (seen.contains(sort) && !sort.equals("whose")) {
                throw faulty(4);
            }
            if (list.size() == 20) {
                throw faulty(6);
            }
            seen.add(take());
            Plain.Clause clause = new Plain.Clause();
            clause.sort = sort;
            if (sort.equals("whose")) {
                clause.owner = number(9);
            }
            clause.part = sort.equals("worth") ? sum() : either();
            if (!peek().equals(";")) {
                throw faulty(1);
            }
            take();
            list.add(clause);
        }
        return list;
    }

    private Plain.Part either() {
        Plain.Part left = both();
        while (peek().equals("or")) {
            take();
            Plain.Part a = left;
            Plain.Part b = both();
            left = names -> Math.max(a.of(names), b.of(names));
        }
        return left;
    }

    private Plain.Part both() {
        Plain.Part left = asked();
        while (peek().equals("and")) {
            take();
            Plain.Part a = left;
            Plain.Part b = asked();
            left = names -> Math.min(a.of(names), b.of(names));
        }
        return left;
    }

    private void openOne() {
        if (open == 8) {
            throw faulty(3);
        }
        open++;
        take();
    }

    private Plain.Part asked() {
        if (peek().equals("not")) {
            openOne();
            Plain.Part a = asked();
            open--;
            return names -> a.of(names) == 0 ? 1 : 0;
        }
        Plain.Part a = sum();
        String sign = peek();
        if (!List.of("<", "<=", ">", ">=", "=", "#").contains(sign)) {
            throw faulty(1);
        }
        take();
        Plain.Part b = sum();
        return names -> holds(sign, a.of(names), b.of(names)) ? 1 : 0;
    }

    private static boolean holds(String sign, long a, long b) {
        return switch (sign) {
            case "<" -> a < b;
            case "<=" -> a <= b;
            case ">" -> a > b;
            case ">=" -> a >= b;
            case "=" -> a == b;
            default -> a != b;
        };
    }

    private static long cut(long v) {
        return v > 1000000000L ? 1000000000L : v < -1000000000L ? -1000000000L : v;
    }

    private Plain.Part sum() {
        Plain.Part left = product();
        while (peek().equals("+") || peek().equals("-")) {
            boolean plus = take().equals("+");
            Plain.Part a = left;
            Plain.Part b = product();
            left = names -> cut(plus ? a.of(names) + b.of(names) : a.of(names) - b.of(names));
        }
        return left;
    }

    private Plain.Part product() {
        Plain.Part left = one();
        while (peek().equals("*") || peek().equals("/")) {
            boolean times = take().equals("*");
            Plain.Part a = left;
            Plain.Part b = one();
            left = names -> cut(times ? a.of(names) * b.of(names) : b.of(names) == 0 ? 0 : a.of(names) / b.of(names));
        }
        return left;
    }

    private Plain.Part one() {
        String token = peek();
        if (token.equals("(")) {
            openOne();
            Plain.Part a = sum();
            if (!peek().equals(")")) {
                throw faulty(1);
            }
            take();
            open--;
            return a;
        }
        if (token.equals("-")) {
            openOne();
            Plain.Part a = one();
            open--;
            return names -> -a.of(names);
        }
        if (NAMES.contains(token)) {
            int name = NAMES.indexOf(token);
            if ((name >= 5 && !sort.equals("yes")) || (name <= 2 && sort.equals("whose"))) {
                throw faulty(5);
            }
            take();
            return names -> names[name];
        }
        int value = number(9999);
        return names -> value;
    }
}
