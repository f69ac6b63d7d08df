import java.util.ArrayDeque;
import java.util.Deque;
import java.util.HashMap;
import java.util.Map;

/**
 * The document once more, by other means than the program: texts are tried
 * with every way to go on, polynomials are maps without limits, and answers
 * visit every joined row and work out the expression there.
 */
final class Model {
    private static final int REFUSED = -1;
    private static final long NONE = 9000000000000000000L;

    private final int[][][] counts = new int[3][6][6];
    private final Deque<int[]> changes = new ArrayDeque<>();
    private String text = "";
    private final ModelText[] questions = new ModelText[4];

    int change(int relation, int x, int y, int by) {
        if (!isRow(relation, x, y) || Math.abs((long) counts[relation][x][y] + by) > 100) {
            return REFUSED;
        }
        counts[relation][x][y] += by;
        changes.push(new int[] {relation, x, y, by});
        return 0;
    }

    int back() {
        if (changes.isEmpty()) {
            return REFUSED;
        }
        int[] latest = changes.pop();
        counts[latest[0]][latest[1]][latest[2]] -= latest[3];
        return changes.size();
    }

    int sign(int code) {
        if (code < 33 || code > 126 || text.length() == 30) {
            return REFUSED;
        }
        text += (char) code;
        return text.length();
    }

    int clear() {
        text = "";
        return 0;
    }

    int define(int question) {
        if (!isQuestion(question)) {
            return REFUSED;
        }
        ModelText parsed = ModelText.parse(text);
        if (parsed == null) {
            return -2;
        }
        if (parsed.large) {
            return -3;
        }
        questions[question] = parsed;
        return parsed.polynomial.size();
    }

    int fault() {
        for (int length = 1; length <= text.length(); length++) {
            if (!ModelText.canBegin(text.substring(0, length))) {
                return length - 1;
            }
        }
        return ModelText.parse(text) == null ? text.length() : -2;
    }

    int drop(int question) {
        if (!isThere(question)) {
            return REFUSED;
        }
        questions[question] = null;
        return 0;
    }

    long answer(int question, int group) {
        if (!isThere(question) || group < 0 || group > 5) {
            return NONE;
        }
        return answers(questions[question])[group];
    }

    long total(int question) {
        if (!isThere(question)) {
            return NONE;
        }
        long sum = 0;
        for (long answer : answers(questions[question])) {
            sum += answer;
        }
        return sum;
    }

    long count(int relation, int x, int y) {
        return isRow(relation, x, y) ? counts[relation][x][y] : NONE;
    }

    int question(int question, int what) {
        if (!isQuestion(question)) {
            return REFUSED;
        }
        if (what == 0) {
            return isThere(question) ? 1 : 0;
        }
        if (!isThere(question)) {
            return REFUSED;
        }
        ModelText asked = questions[question];
        int chain = 0;
        for (char relation : asked.chain.toCharArray()) {
            chain += 1 << "RST".indexOf(relation);
        }
        int group = asked.group == 0 ? -2 : "ABCD".indexOf(asked.group);
        int[] all = {1, asked.polynomial.size(), chain, group, asked.conditions.length() / 4};
        return what > 0 && what < all.length ? all[what] : REFUSED;
    }

    int state(int what) {
        int filled = 0;
        for (int[][] relation : counts) {
            for (int[] row : relation) {
                for (int count : row) {
                    filled += count != 0 ? 1 : 0;
                }
            }
        }
        int[] all = {text.length(), changes.size(), filled};
        return what >= 0 && what < all.length ? all[what] : REFUSED;
    }

    private static boolean isRow(int relation, int x, int y) {
        return relation >= 0 && relation <= 2 && x >= 0 && x <= 5 && y >= 0 && y <= 5;
    }

    private static boolean isQuestion(int question) {
        return question >= 0 && question <= 3;
    }

    private boolean isThere(int question) {
        return isQuestion(question) && questions[question] != null;
    }

    private long[] answers(ModelText asked) {
        long[] answers = new long[6];
        int[] row = new int[4];
        String columns = asked.columns();
        int rows = (int) Math.pow(6, columns.length());
        for (int number = 0; number < rows; number++) {
            int rest = number;
            for (char column : columns.toCharArray()) {
                row[column - 'A'] = rest % 6;
                rest /= 6;
            }
            if (asked.meets(row)) {
                int group = asked.group == 0 ? 0 : row[asked.group - 'A'];
                answers[group] += weight(asked, row) * asked.valueAt(row);
            }
        }
        return answers;
    }

    private long weight(ModelText asked, int[] row) {
        long weight = 1;
        for (char letter : asked.chain.toCharArray()) {
            int relation = "RST".indexOf(letter);
            weight *= counts[relation][row[relation]][row[relation + 1]];
        }
        return weight;
    }

    /** A whole text, taken apart. */
    static final class ModelText {
        private static final String[] CHAINS = {"R", "S", "T", "RS", "ST", "RST"};
        private static final String[] CHAIN_COLUMNS = {"AB", "BC", "CD", "ABC", "BCD", "ABCD"};

        String chain;
        String expression;
        String conditions;
        char group;
        boolean large;
        Map<String, Long> polynomial;

        private int place;
        private boolean broken;
        private int[] row;

        /** The text's parts, or null if it is not a whole text. */
        static ModelText parse(String text) {
            int colon = text.indexOf(':');
            ModelText parsed = new ModelText();
            if (colon < 0) {
                return null;
            }
            parsed.chain = text.substring(0, colon);
            if (parsed.columns() == null) {
                return null;
            }
            String rest = text.substring(colon + 1);
            int slash = rest.indexOf('/');
            if (slash >= 0) {
                if (slash != rest.length() - 2 || parsed.columns().indexOf(rest.charAt(slash + 1)) < 0) {
                    return null;
                }
                parsed.group = rest.charAt(slash + 1);
                rest = rest.substring(0, slash);
            }
            int mark = rest.indexOf('?');
            parsed.conditions = mark < 0 ? "" : rest.substring(mark);
            parsed.expression = mark < 0 ? rest : rest.substring(0, mark);
            if (!parsed.conditions.matches("(\\?[" + parsed.columns() + "][=#<>][0-9])*")) {
                return null;
            }
            parsed.polynomial = parsed.sum(0);
            return parsed.broken || parsed.place != parsed.expression.length() ? null : parsed;
        }

        /** Whether some whole text begins with this one: every kind of rest is tried. */
        static boolean canBegin(String begin) {
            String[] rests = {"", ":1", "1", "=1", "A", "B", "C", "D", "A=1", "B=1", "C=1", "D=1"};
            StringBuilder closing = new StringBuilder();
            for (int closed = 0; closed <= 8; closed++) {
                for (String rest : rests) {
                    if (parse(begin + rest + closing) != null) {
                        return true;
                    }
                }
                closing.append(')');
            }
            return false;
        }

        String columns() {
            for (int i = 0; i < CHAINS.length; i++) {
                if (CHAINS[i].equals(chain)) {
                    return CHAIN_COLUMNS[i];
                }
            }
            return null;
        }

        boolean meets(int[] values) {
            for (int i = 0; i < conditions.length(); i += 4) {
                int value = values[conditions.charAt(i + 1) - 'A'];
                int digit = conditions.charAt(i + 3) - '0';
                char kind = conditions.charAt(i + 2);
                boolean met = kind == '=' && value == digit || kind == '#' && value != digit
                    || kind == '<' && value < digit || kind == '>' && value > digit;
                if (!met) {
                    return false;
                }
            }
            return true;
        }

        /** The expression's value, worked out from its signs. */
        long valueAt(int[] values) {
            row = values;
            place = 0;
            return sumValue();
        }

        private char next() {
            return place < expression.length() ? expression.charAt(place) : ' ';
        }

        private long sumValue() {
            long value = productValue();
            while (next() == '+' || next() == '-') {
                boolean plus = next() == '+';
                place++;
                value += plus ? productValue() : -productValue();
            }
            return value;
        }

        private long productValue() {
            long value = factorValue();
            while (next() == '*') {
                place++;
                value *= factorValue();
            }
            return value;
        }

        private long factorValue() {
            char sign = next();
            place++;
            if (sign == '-') {
                return -factorValue();
            }
            if (sign == '(') {
                long value = sumValue();
                place++;
                return value;
            }
            return Character.isDigit(sign) ? sign - '0' : row[sign - 'A'];
        }

        private Map<String, Long> sum(int open) {
            Map<String, Long> sum = product(open);
            while (!broken && (next() == '+' || next() == '-')) {
                long times = next() == '+' ? 1 : -1;
                place++;
                Map<String, Long> old = new HashMap<>(sum);
                product(open).forEach((powers, by) -> old.merge(powers, times * by, Long::sum));
                sum = looked(old);
            }
            return sum;
        }

        private Map<String, Long> product(int open) {
            Map<String, Long> product = factor(open);
            while (!broken && next() == '*') {
                place++;
                Map<String, Long> left = product;
                Map<String, Long> made = new HashMap<>();
                factor(open).forEach((powers, by) ->
                    left.forEach((others, times) -> made.merge(added(powers, others), by * times, Long::sum)));
                product = looked(made);
            }
            return product;
        }

        private Map<String, Long> factor(int open) {
            Map<String, Long> factor = new HashMap<>();
            char sign = next();
            place++;
            if ((sign == '(' || sign == '-') && open < 8) {
                Map<String, Long> inner = sign == '(' ? sum(open + 1) : factor(open + 1);
                if (sign == '(') {
                    broken |= next() != ')';
                    place++;
                }
                inner.forEach((powers, by) -> factor.put(powers, sign == '(' ? by : -by));
            } else if (sign >= '0' && sign <= '9') {
                factor.put("0000", (long) (sign - '0'));
            } else if (columns().indexOf(sign) >= 0) {
                StringBuilder powers = new StringBuilder("0000");
                powers.setCharAt(sign - 'A', '1');
                factor.put(powers.toString(), 1L);
            } else {
                broken = true;
            }
            return looked(factor);
        }

        private static String added(String powers, String others) {
            StringBuilder sum = new StringBuilder();
            for (int i = 0; i < 4; i++) {
                // A power may pass 9 behind one that is large already; it stays a sign.
                sum.append((char) (powers.charAt(i) + others.charAt(i) - '0'));
            }
            return sum.toString();
        }

        private Map<String, Long> looked(Map<String, Long> made) {
            made.values().removeIf(coefficient -> coefficient == 0);
            large |= made.size() > 12;
            made.forEach((powers, coefficient) -> {
                large |= Math.abs(coefficient) > 1000;
                for (char power : powers.toCharArray()) {
                    large |= power > '2';
                }
            });
            return made;
        }
    }
}
