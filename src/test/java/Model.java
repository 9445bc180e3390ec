import java.util.ArrayList;
import java.util.Arrays;
import java.util.Comparator;
import java.util.HashMap;
import java.util.List;
import java.util.Map;

/** The document said once more, as near to its words as can be and without care for speed. */
final class Model {
    private static final long INFINITE = Long.MAX_VALUE / 4;

    private final StringBuilder typed = new StringBuilder();
    private String expression = "";
    private Map<String, Long> known = new HashMap<>();
    private String text = "";
    private final List<String> words = new ArrayList<>();
    private int added = 1;
    private int missing = 1;
    private int wrong = 1;
    private int bound = 0;
    private int from = -1;
    private int to = -1;

    boolean type(char c) {
        if (c < 33 || c > 126 || typed.length() == 40) {
            return false;
        }
        typed.append(c);
        return true;
    }

    int compile() {
        String read = typed.toString();
        typed.setLength(0);
        if (!isExpression(read)) {
            for (int place = 0; place < read.length(); place++) {
                if (!isBeginning(read.substring(0, place + 1))) {
                    return place;
                }
            }
            return read.length();
        }
        if (nodesOf(read) > 24) {
            return -2;
        }
        expression = read;
        known.clear();
        forget();
        return -1;
    }

    int nodes() {
        return nodesOf(expression);
    }

    boolean weights(int newAdded, int newMissing, int newWrong) {
        for (int weight : new int[] {newAdded, newMissing, newWrong}) {
            if (weight < 0 || weight > 9) {
                return false;
            }
        }
        added = newAdded;
        missing = newMissing;
        wrong = newWrong;
        known.clear();
        forget();
        return true;
    }

    boolean bound(int most) {
        if (most < 0 || most > 999) {
            return false;
        }
        bound = most;
        forget();
        return true;
    }

    boolean write(char c) {
        if (c < 'a' || c > 'z' || text.length() == 24) {
            return false;
        }
        text += c;
        forget();
        return true;
    }

    int length() {
        return text.length();
    }

    void erase() {
        text = "";
        forget();
    }

    int cost(int i, int j) {
        if (expression.isEmpty() || i < 0 || j < i || j > text.length()) {
            return -1;
        }
        long cost = costOf(expression, text.substring(i, j));
        return cost >= INFINITE ? -1 : (int) cost;
    }

    int find(boolean best) {
        forget();
        List<int[]> matches = new ArrayList<>();
        for (int i = 0; i <= text.length(); i++) {
            for (int j = i; j <= text.length(); j++) {
                int cost = cost(i, j);
                if (cost >= 0 && cost <= bound) {
                    matches.add(new int[] {cost, i, j});
                }
            }
        }
        if (matches.isEmpty()) {
            return -1;
        }
        Comparator<int[]> byCost = Comparator.comparingInt(match -> match[0]);
        Comparator<int[]> byStart = Comparator.comparingInt(match -> match[1]);
        Comparator<int[]> byEnd = Comparator.comparingInt(match -> -match[2]);
        Comparator<int[]> order = best ? byCost.thenComparing(byStart) : byStart.thenComparing(byCost);
        matches.sort(order.thenComparing(byEnd));
        from = matches.get(0)[1];
        to = matches.get(0)[2];
        return matches.get(0)[0];
    }

    int from() {
        return from;
    }

    int to() {
        return to;
    }

    int ends() {
        int ends = 0;
        for (int i = 0; i <= text.length(); i++) {
            for (int j = i; j <= text.length(); j++) {
                int cost = cost(i, j);
                if (cost >= 0 && cost <= bound) {
                    ends |= 1 << j;
                }
            }
        }
        return ends;
    }

    int add() {
        if (text.isEmpty() || text.length() > 12 || words.contains(text) || words.size() == 20) {
            return -1;
        }
        words.add(text);
        return words.size() - 1;
    }

    int words() {
        return words.size();
    }

    int distance(int w, boolean exchange) {
        return w < 0 || w >= words.size() ? -1 : steps(words.get(w), text, exchange, new HashMap<>());
    }

    int near(int k, boolean exchange) {
        int near = 0;
        for (int w = 0; w < words.size(); w++) {
            near += distance(w, exchange) <= k ? 1 : 0;
        }
        return near;
    }

    int rank(int r, boolean exchange) {
        List<String> order = new ArrayList<>(words);
        order.sort(Comparator.comparingInt((String word) -> distance(words.indexOf(word), exchange))
            .thenComparing(Comparator.naturalOrder()));
        return r < 0 || r >= order.size() ? -1 : words.indexOf(order.get(r));
    }

    private void forget() {
        from = -1;
        to = -1;
    }

    private static int steps(String a, String b, boolean exchange, Map<String, Integer> told) {
        if (a.isEmpty() && b.isEmpty()) {
            return 0;
        }
        String question = a + "/" + b;
        if (told.containsKey(question)) {
            return told.get(question);
        }
        int p = a.length();
        int q = b.length();
        int least = Integer.MAX_VALUE;
        if (p >= 1) {
            least = Math.min(least, steps(a.substring(0, p - 1), b, exchange, told) + 1);
        }
        if (q >= 1) {
            least = Math.min(least, steps(a, b.substring(0, q - 1), exchange, told) + 1);
        }
        if (p >= 1 && q >= 1) {
            int differ = a.charAt(p - 1) == b.charAt(q - 1) ? 0 : 1;
            least = Math.min(least, steps(a.substring(0, p - 1), b.substring(0, q - 1), exchange, told) + differ);
        }
        if (exchange && p >= 2 && q >= 2
            && new StringBuilder(a.substring(p - 2)).reverse().toString().equals(b.substring(q - 2))) {
            least = Math.min(least, steps(a.substring(0, p - 2), b.substring(0, q - 2), exchange, told) + 1);
        }
        told.put(question, least);
        return least;
    }

    // The parts of an expression are found in its characters anew each time: no tree is kept.

    static boolean isExpression(String s) {
        return bracketsOf(s) <= 6 && splitAt(s, true).stream().allMatch(Model::isRow);
    }

    /** An open bracket, set or limit can be ended by one of these and up to six brackets. */
    private static boolean isBeginning(String s) {
        for (String end : Arrays.asList("", "a", "]", "a]", "1")) {
            for (int brackets = 0; brackets <= 6; brackets++) {
                if (isExpression(s + end + ")".repeat(brackets))) {
                    return true;
                }
            }
        }
        return false;
    }

    private static boolean isRow(String row) {
        List<String> items = splitAt(row, false);
        return !items.isEmpty() && items.stream().allMatch(Model::isItem);
    }

    private static boolean isItem(String item) {
        String atom = item.replaceFirst("([*+?]|<[0-9]{1,2})*$", "");
        if (atom.matches("[a-z.]") || atom.matches("\\[\\^?[a-z]+\\]")) {
            return true;
        }
        return atom.matches("\\(.+\\)") && isExpression(atom.substring(1, atom.length() - 1));
    }

    private static int bracketsOf(String s) {
        int depth = 0;
        int most = 0;
        for (char c : s.toCharArray()) {
            depth += c == '(' ? 1 : c == ')' ? -1 : 0;
            most = Math.max(most, depth);
        }
        return most;
    }

    /** Splits at each | outside brackets, or into items; what is no item stays one part that is none. */
    private static List<String> splitAt(String s, boolean bars) {
        List<String> parts = new ArrayList<>();
        int begin = 0;
        int depth = 0;
        for (int at = 0; at < s.length(); at++) {
            char c = s.charAt(at);
            boolean free = depth == 0;
            depth += c == '(' || c == '[' ? 1 : c == ')' || c == ']' ? -1 : 0;
            boolean digitOfLimit = c >= '0' && c <= '9' && at > 0
                && (s.charAt(at - 1) == '<' || at > 1 && s.charAt(at - 2) == '<');
            boolean suffix = "*+?<".indexOf(c) >= 0 || digitOfLimit;
            if (free && bars && c == '|') {
                parts.add(s.substring(begin, at));
                begin = at + 1;
            } else if (free && !bars && at > begin && !suffix) {
                parts.add(s.substring(begin, at));
                begin = at;
            }
        }
        parts.add(s.substring(begin));
        return parts;
    }

    private static int nodesOf(String s) {
        if (s.isEmpty()) {
            return 0;
        }
        int nodes = 0;
        List<String> rows = splitAt(s, true);
        for (String row : rows) {
            List<String> items = splitAt(row, false);
            for (String item : items) {
                String atom = item.replaceFirst("([*+?]|<[0-9]{1,2})*$", "");
                nodes += item.substring(atom.length()).replaceAll("[0-9]", "").length();
                nodes += atom.startsWith("(") ? nodesOf(atom.substring(1, atom.length() - 1)) : 1;
            }
            nodes += items.size() - 1;
        }
        return nodes + rows.size() - 1;
    }

    private long costOf(String s, String piece) {
        String question = s + "/" + piece;
        Long answer = known.get(question);
        if (answer == null) {
            answer = Math.min(INFINITE, workOut(s, piece));
            known.put(question, answer);
        }
        return answer;
    }

    private long workOut(String s, String piece) {
        List<String> rows = splitAt(s, true);
        if (rows.size() > 1) {
            return rows.stream().mapToLong(row -> costOf(row, piece)).min().getAsLong();
        }
        List<String> items = splitAt(s, false);
        if (items.size() > 1) {
            String rest = s.substring(items.get(0).length());
            long least = INFINITE;
            for (int k = 0; k <= piece.length(); k++) {
                least = Math.min(least, costOf(items.get(0), piece.substring(0, k)) + costOf(rest, piece.substring(k)));
            }
            return least;
        }
        int last = s.length() - 1;
        String limited = s.replaceFirst("<[0-9]{1,2}$", "");
        long none = (long) piece.length() * added;
        if (!limited.equals(s)) {
            long inner = costOf(limited, piece);
            return inner <= Integer.parseInt(s.substring(limited.length() + 1)) ? inner : INFINITE;
        }
        switch (s.charAt(last)) {
            case '?':
                return Math.min(none, costOf(s.substring(0, last), piece));
            case '*':
                return Math.min(none, sums(s.substring(0, last), piece));
            case '+':
                return sums(s.substring(0, last), piece);
            case ')':
                return costOf(s.substring(1, last), piece);
            default:
                return costOfLetter(s, piece);
        }
    }

    /** The least sum on one up to length + 2 pieces, empty ones among them. */
    private long sums(String s, String piece) {
        int n = piece.length();
        long least = costOf(s, piece);
        long[] behind = new long[n + 1];
        for (int i = 0; i <= n; i++) {
            behind[i] = costOf(s, piece.substring(i));
        }
        for (int pieces = 2; pieces <= n + 2; pieces++) {
            long[] more = new long[n + 1];
            Arrays.fill(more, INFINITE);
            for (int i = 0; i <= n; i++) {
                for (int k = i; k <= n; k++) {
                    more[i] = Math.min(more[i], costOf(s, piece.substring(i, k)) + behind[k]);
                }
            }
            behind = more;
            least = Math.min(least, behind[0]);
        }
        return least;
    }

    private long costOfLetter(String atom, String piece) {
        int n = piece.length();
        long least = missing + (long) n * added;
        if (n >= 1) {
            boolean fits = piece.chars().anyMatch(c -> fits(atom, (char) c));
            least = Math.min(least, (n - 1L) * added + (fits ? 0 : wrong));
        }
        return least;
    }

    private static boolean fits(String atom, char c) {
        return atom.equals(".") || (atom.startsWith("[^") ? atom.indexOf(c) < 0 : atom.indexOf(c) >= 0);
    }
}
