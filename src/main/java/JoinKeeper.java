import java.util.Arrays;

/**
 * Three relations of counted rows and four questions about their joins, given
 * as texts and kept up to date with every change of a row.
 *
 * <p>Everything an object needs is made in its constructor; no call makes
 * another object.
 */
public final class JoinKeeper {
    public static final int DONE = 0;
    public static final int REFUSED = -1;
    public static final int BAD = -2;
    public static final int LARGE = -3;
    public static final long NONE = 9000000000000000000L;

    private static final int RELATIONS = 3;
    private static final int COLUMNS = 4;
    private static final int VALUES = 6;
    private static final int QUESTIONS = 4;

    private final Rows rows;
    private final Text text;
    private final Grammar grammar;
    private final Evaluator evaluator;
    private final Question[] questions;

    public JoinKeeper() {
        rows = new Rows();
        text = new Text();
        grammar = new Grammar();
        evaluator = new Evaluator();
        questions = new Question[QUESTIONS];
        for (int i = 0; i < QUESTIONS; i++) {
            questions[i] = new Question();
        }
    }

    public int change(int relation, int x, int y, int by) {
        if (!isRow(relation, x, y)) {
            return REFUSED;
        }
        return rows.raise(Rows.placeOf(relation, x, y), by) ? DONE : REFUSED;
    }

    public int back() {
        return rows.takeBack() ? rows.changesLeft() : REFUSED;
    }

    public int sign(int code) {
        if (code < Text.FIRST_SIGN || code > Text.LAST_SIGN) {
            return REFUSED;
        }
        return text.append((char) code) ? text.length() : REFUSED;
    }

    public int clear() {
        text.empty();
        return DONE;
    }

    public int define(int question) {
        if (!isQuestion(question)) {
            return REFUSED;
        }
        if (grammar.faultIn(text) != Grammar.WHOLE) {
            return BAD;
        }
        if (!evaluator.evaluate(text, grammar.expressionStart())) {
            return LARGE;
        }
        questions[question].become(grammar, evaluator.result());
        return questions[question].terms();
    }

    public int fault() {
        return grammar.faultIn(text);
    }

    public int drop(int question) {
        if (!isAskable(question)) {
            return REFUSED;
        }
        questions[question].remove();
        return DONE;
    }

    public long answer(int question, int group) {
        if (!isAskable(question) || !isValue(group)) {
            return NONE;
        }
        return questions[question].answerFor(rows, group);
    }

    public long total(int question) {
        if (!isAskable(question)) {
            return NONE;
        }
        return questions[question].sumOver(rows, Question.ALL_GROUPS);
    }

    public long count(int relation, int x, int y) {
        if (!isRow(relation, x, y)) {
            return NONE;
        }
        return rows.at(Rows.placeOf(relation, x, y));
    }

    public int question(int question, int what) {
        if (!isQuestion(question)) {
            return REFUSED;
        }
        Question asked = questions[question];
        if (what == 0) {
            return asked.isThere() ? 1 : 0;
        }
        if (!asked.isThere()) {
            return REFUSED;
        }
        switch (what) {
            case 1:
                return asked.terms();
            case 2:
                return asked.chain();
            case 3:
                return asked.groupColumn();
            case 4:
                return asked.conditions();
            default:
                return REFUSED;
        }
    }

    public int state(int what) {
        switch (what) {
            case 0:
                return text.length();
            case 1:
                return rows.changesLeft();
            case 2:
                return rows.filled();
            default:
                return REFUSED;
        }
    }

    private static boolean isRow(int relation, int x, int y) {
        return relation >= 0 && relation < RELATIONS && isValue(x) && isValue(y);
    }

    private static boolean isValue(int value) {
        return value >= 0 && value < VALUES;
    }

    private static boolean isQuestion(int question) {
        return question >= 0 && question < QUESTIONS;
    }

    private boolean isAskable(int question) {
        return isQuestion(question) && questions[question].isThere();
    }

    /** The counts of all rows, and the changes that can be taken back. */
    private static final class Rows {
        private static final int MOST = 100;
        /** An object's last call is its 512th, so no used change is ever lost. */
        private static final int MOST_CHANGES = 512;

        private final int[] counts = new int[RELATIONS * VALUES * VALUES];
        private final int[] changedPlaces = new int[MOST_CHANGES];
        private final int[] changedBy = new int[MOST_CHANGES];
        private int changes;

        static int placeOf(int relation, int x, int y) {
            return (relation * VALUES + x) * VALUES + y;
        }

        int at(int place) {
            return counts[place];
        }

        boolean raise(int place, int by) {
            long risen = (long) counts[place] + by;
            if (risen > MOST || risen < -MOST || changes >= MOST_CHANGES) {
                return false;
            }
            counts[place] = (int) risen;
            changedPlaces[changes] = place;
            changedBy[changes] = by;
            changes++;
            return true;
        }

        boolean takeBack() {
            if (changes <= 0) {
                return false;
            }
            changes--;
            counts[changedPlaces[changes]] -= changedBy[changes];
            return true;
        }

        int changesLeft() {
            return changes;
        }

        int filled() {
            int filled = 0;
            for (int place = 0; place < counts.length; place++) {
                if (counts[place] != 0) {
                    filled++;
                }
            }
            return filled;
        }
    }

    /** The signs that a question is made of. */
    private static final class Text {
        static final int FIRST_SIGN = 33;
        static final int LAST_SIGN = 126;
        static final int MOST_SIGNS = 30;
        /** Read behind the last sign; no sign has this code. */
        static final char END = 0;

        private final char[] signs = new char[MOST_SIGNS];
        private int length;

        boolean append(char sign) {
            if (length >= MOST_SIGNS) {
                return false;
            }
            signs[length] = sign;
            length++;
            return true;
        }

        void empty() {
            length = 0;
        }

        int length() {
            return length;
        }

        char at(int place) {
            return place >= 0 && place < length ? signs[place] : END;
        }

        static boolean isDigit(char sign) {
            return sign >= '0' && sign <= '9';
        }

        /** The relation of a letter R, S or T, or -1. */
        static int relationOf(char sign) {
            return sign >= 'R' && sign <= 'T' ? sign - 'R' : -1;
        }

        /** The column of a letter A, B, C or D, or -1. */
        static int columnOf(char sign) {
            return sign >= 'A' && sign <= 'D' ? sign - 'A' : -1;
        }
    }

    /**
     * Takes a text sign by sign, each only if it can stand, and keeps what the
     * text says beside its expression.
     */
    private static final class Grammar {
        static final int WHOLE = -2;
        static final int NO_COLUMN = -2;
        static final int MOST_OPEN = 8;

        private static final int ALL_VALUES = (1 << VALUES) - 1;

        // The steps: what the next sign has to be.
        private static final int CHAIN_START = 0;
        private static final int CHAIN_REST = 1;
        private static final int FACTOR = 2;
        private static final int AFTER_FACTOR = 3;
        private static final int CONDITION_COLUMN = 4;
        private static final int CONDITION_KIND = 5;
        private static final int CONDITION_DIGIT = 6;
        private static final int AFTER_CONDITION = 7;
        private static final int GROUP_COLUMN = 8;
        private static final int NOTHING = 9;

        private int step;
        private int firstRelation;
        private int lastRelation;
        /** How many of '(' and '-' that begin a factor are open. */
        private int open;
        /** A bit for each of these, the latest lowest: 1 for '(', 0 for '-'. */
        private int openBits;
        private int conditionColumn;
        private char conditionKind;
        private int conditions;
        /** For each column the values that meet all conditions, as bits. */
        private final int[] allowed = new int[COLUMNS];
        private int groupColumn;

        int faultIn(Text text) {
            restart();
            for (int place = 0; place < text.length(); place++) {
                if (!take(text.at(place))) {
                    return place;
                }
            }
            return isWhole() ? WHOLE : text.length();
        }

        int firstRelation() {
            return firstRelation;
        }

        int lastRelation() {
            return lastRelation;
        }

        int expressionStart() {
            int letters = lastRelation - firstRelation + 1;
            return letters + 1;
        }

        int conditions() {
            return conditions;
        }

        int allowedIn(int column) {
            return allowed[column];
        }

        int groupColumn() {
            return groupColumn;
        }

        private void restart() {
            step = CHAIN_START;
            firstRelation = 0;
            lastRelation = 0;
            open = 0;
            openBits = 0;
            conditions = 0;
            Arrays.fill(allowed, ALL_VALUES);
            groupColumn = NO_COLUMN;
        }

        private boolean isWhole() {
            return step == AFTER_FACTOR && open == 0
                || step == AFTER_CONDITION
                || step == NOTHING;
        }

        private boolean take(char sign) {
            switch (step) {
                case CHAIN_START:
                    return takeChainStart(sign);
                case CHAIN_REST:
                    return takeChainRest(sign);
                case FACTOR:
                    return takeFactor(sign);
                case AFTER_FACTOR:
                    return takeAfterFactor(sign);
                case CONDITION_COLUMN:
                    return takeConditionColumn(sign);
                case CONDITION_KIND:
                    return takeConditionKind(sign);
                case CONDITION_DIGIT:
                    return takeConditionDigit(sign);
                case AFTER_CONDITION:
                    return takeTail(sign);
                case GROUP_COLUMN:
                    return takeGroupColumn(sign);
                default:
                    return false;
            }
        }

        private boolean takeChainStart(char sign) {
            int relation = Text.relationOf(sign);
            if (relation < 0) {
                return false;
            }
            firstRelation = relation;
            lastRelation = relation;
            step = CHAIN_REST;
            return true;
        }

        private boolean takeChainRest(char sign) {
            if (sign == ':') {
                step = FACTOR;
                return true;
            }
            if (Text.relationOf(sign) != lastRelation + 1) {
                return false;
            }
            lastRelation++;
            return true;
        }

        private boolean takeFactor(char sign) {
            if (sign == '(' || sign == '-') {
                return takeOpening(sign);
            }
            if (!Text.isDigit(sign) && !isChainColumn(sign)) {
                return false;
            }
            endFactor();
            return true;
        }

        private boolean takeOpening(char sign) {
            if (open >= MOST_OPEN) {
                return false;
            }
            open++;
            openBits = openBits << 1 | (sign == '(' ? 1 : 0);
            return true;
        }

        private boolean takeAfterFactor(char sign) {
            if (sign == '+' || sign == '-' || sign == '*') {
                step = FACTOR;
                return true;
            }
            if (open == 0) {
                return takeTail(sign);
            }
            if (sign != ')') {
                return false;
            }
            open--;
            openBits >>= 1;
            endFactor();
            return true;
        }

        /** Each '-' right before a factor is open no longer than the factor. */
        private void endFactor() {
            while (open > 0 && (openBits & 1) == 0) {
                open--;
                openBits >>= 1;
            }
            step = AFTER_FACTOR;
        }

        private boolean takeTail(char sign) {
            if (sign == '?') {
                step = CONDITION_COLUMN;
                return true;
            }
            if (sign == '/') {
                step = GROUP_COLUMN;
                return true;
            }
            return false;
        }

        private boolean takeConditionColumn(char sign) {
            if (!isChainColumn(sign)) {
                return false;
            }
            conditionColumn = Text.columnOf(sign);
            step = CONDITION_KIND;
            return true;
        }

        private boolean takeConditionKind(char sign) {
            if (sign != '=' && sign != '#' && sign != '<' && sign != '>') {
                return false;
            }
            conditionKind = sign;
            step = CONDITION_DIGIT;
            return true;
        }

        private boolean takeConditionDigit(char sign) {
            if (!Text.isDigit(sign)) {
                return false;
            }
            for (int value = 0; value < VALUES; value++) {
                if (!meets(value, conditionKind, sign - '0')) {
                    allowed[conditionColumn] &= ~(1 << value);
                }
            }
            conditions++;
            step = AFTER_CONDITION;
            return true;
        }

        private static boolean meets(int value, char kind, int digit) {
            switch (kind) {
                case '=':
                    return value == digit;
                case '#':
                    return value != digit;
                case '<':
                    return value < digit;
                default:
                    return value > digit;
            }
        }

        private boolean takeGroupColumn(char sign) {
            if (!isChainColumn(sign)) {
                return false;
            }
            groupColumn = Text.columnOf(sign);
            step = NOTHING;
            return true;
        }

        /** A relation's columns have its own number and the next one. */
        private boolean isChainColumn(char sign) {
            int column = Text.columnOf(sign);
            return column >= firstRelation && column <= lastRelation + 1;
        }
    }

    /**
     * A polynomial in the columns with powers 0 .. 2. The place of a
     * combination of powers is the number that has them as digits to base 3,
     * so that the places of two factors add up to the place of their product.
     */
    private static final class Polynomial {
        static final int PLACES = 81;

        private static final int BASE = 3;
        private static final int[] COLUMN_PLACES = {1, 3, 9, 27};
        private static final int MOST_POWER = 2;
        private static final int MOST_TERMS = 12;
        private static final int MOST_COEFFICIENT = 1000;

        private final int[] coefficients = new int[PLACES];

        static int powerAt(int place, int column) {
            return place / COLUMN_PLACES[column] % BASE;
        }

        int at(int place) {
            return coefficients[place];
        }

        int terms() {
            int terms = 0;
            for (int place = 0; place < PLACES; place++) {
                if (coefficients[place] != 0) {
                    terms++;
                }
            }
            return terms;
        }

        void becomeNumber(int number) {
            Arrays.fill(coefficients, 0);
            coefficients[0] = number;
        }

        void becomeColumn(int column) {
            Arrays.fill(coefficients, 0);
            coefficients[COLUMN_PLACES[column]] = 1;
        }

        void becomeCopy(Polynomial other) {
            System.arraycopy(other.coefficients, 0, coefficients, 0, PLACES);
        }

        void becomeNegative(Polynomial other) {
            for (int place = 0; place < PLACES; place++) {
                coefficients[place] = -other.coefficients[place];
            }
        }

        /** Answers false if the sum is large. */
        boolean add(Polynomial other, int times) {
            for (int place = 0; place < PLACES; place++) {
                coefficients[place] += times * other.coefficients[place];
            }
            return !hasLargeTerms();
        }

        /**
         * Answers false if the product is large. Neither factor is this one.
         * The highest powers of a column in two polynomials never cancel out
         * in their product, so one pair of terms beyond the powers decides.
         */
        boolean becomeProduct(Polynomial left, Polynomial right) {
            Arrays.fill(coefficients, 0);
            for (int i = 0; i < PLACES; i++) {
                if (left.coefficients[i] == 0) {
                    continue;
                }
                for (int j = 0; j < PLACES; j++) {
                    if (right.coefficients[j] == 0) {
                        continue;
                    }
                    if (!powersFit(i, j)) {
                        return false;
                    }
                    coefficients[i + j] += left.coefficients[i] * right.coefficients[j];
                }
            }
            return !hasLargeTerms();
        }

        private static boolean powersFit(int place, int other) {
            for (int column = 0; column < COLUMNS; column++) {
                if (powerAt(place, column) + powerAt(other, column) > MOST_POWER) {
                    return false;
                }
            }
            return true;
        }

        private boolean hasLargeTerms() {
            for (int place = 0; place < PLACES; place++) {
                if (coefficients[place] > MOST_COEFFICIENT || coefficients[place] < -MOST_COEFFICIENT) {
                    return true;
                }
            }
            return terms() > MOST_TERMS;
        }
    }

    /**
     * Works out the polynomial of the expression in a whole text. Each of its
     * reading methods answers false if a polynomial on the way is large; a
     * level is the number of signs open around what is read, and has
     * polynomials of its own, so that an outer one is kept while an inner one
     * is read.
     */
    private static final class Evaluator {
        private static final int LEVELS = Grammar.MOST_OPEN + 1;

        private final Polynomial[] sums = new Polynomial[LEVELS];
        private final Polynomial[] products = new Polynomial[LEVELS];
        private final Polynomial[] factors = new Polynomial[LEVELS];
        private final Polynomial spare = new Polynomial();
        private int place;

        Evaluator() {
            for (int level = 0; level < LEVELS; level++) {
                sums[level] = new Polynomial();
                products[level] = new Polynomial();
                factors[level] = new Polynomial();
            }
        }

        boolean evaluate(Text text, int start) {
            place = start;
            return readSum(text, 0);
        }

        Polynomial result() {
            return sums[0];
        }

        private boolean readSum(Text text, int level) {
            if (level >= LEVELS) {
                return false;
            }
            sums[level].becomeNumber(0);
            int times = 1;
            for (int terms = 0; terms < Text.MOST_SIGNS; terms++) {
                if (!readProduct(text, level) || !sums[level].add(products[level], times)) {
                    return false;
                }
                char sign = text.at(place);
                if (sign != '+' && sign != '-') {
                    return true;
                }
                times = sign == '+' ? 1 : -1;
                place++;
            }
            return false;
        }

        private boolean readProduct(Text text, int level) {
            products[level].becomeNumber(1);
            for (int read = 0; read < Text.MOST_SIGNS; read++) {
                if (!readFactor(text, level) || !spare.becomeProduct(products[level], factors[level])) {
                    return false;
                }
                products[level].becomeCopy(spare);
                if (text.at(place) != '*') {
                    return true;
                }
                place++;
            }
            return false;
        }

        private boolean readFactor(Text text, int level) {
            if (level >= LEVELS) {
                return false;
            }
            char sign = text.at(place);
            place++;
            if (sign == '(') {
                return readRestOfBrackets(text, level);
            }
            if (sign == '-') {
                return readRestOfNegative(text, level);
            }
            int column = Text.columnOf(sign);
            if (column >= 0) {
                factors[level].becomeColumn(column);
            } else {
                factors[level].becomeNumber(sign - '0');
            }
            return true;
        }

        private boolean readRestOfBrackets(Text text, int level) {
            if (!readSum(text, level + 1)) {
                return false;
            }
            place++;
            factors[level].becomeCopy(sums[level + 1]);
            return true;
        }

        private boolean readRestOfNegative(Text text, int level) {
            if (!readFactor(text, level + 1)) {
                return false;
            }
            factors[level].becomeNegative(factors[level + 1]);
            return true;
        }
    }

    /** One of the questions; what it was made of stays when the text changes. */
    private static final class Question {
        static final int ALL_GROUPS = -1;

        private boolean there;
        private int firstRelation;
        private int lastRelation;
        private int groupColumn;
        private int conditions;
        private final int[] allowed = new int[COLUMNS];
        private final Polynomial polynomial = new Polynomial();
        private final long[] oneColumn = new long[VALUES];
        private final long[] otherColumn = new long[VALUES];

        void become(Grammar grammar, Polynomial asked) {
            there = true;
            firstRelation = grammar.firstRelation();
            lastRelation = grammar.lastRelation();
            groupColumn = grammar.groupColumn();
            conditions = grammar.conditions();
            for (int column = 0; column < COLUMNS; column++) {
                allowed[column] = grammar.allowedIn(column);
            }
            polynomial.becomeCopy(asked);
        }

        void remove() {
            there = false;
        }

        boolean isThere() {
            return there;
        }

        int terms() {
            return polynomial.terms();
        }

        int chain() {
            int chain = 0;
            for (int relation = firstRelation; relation <= lastRelation; relation++) {
                chain += 1 << relation;
            }
            return chain;
        }

        int groupColumn() {
            return groupColumn;
        }

        int conditions() {
            return conditions;
        }

        long answerFor(Rows rows, int group) {
            if (groupColumn == Grammar.NO_COLUMN) {
                return group == 0 ? sumOver(rows, ALL_GROUPS) : 0;
            }
            return sumOver(rows, group);
        }

        long sumOver(Rows rows, int group) {
            long sum = 0;
            for (int powers = 0; powers < Polynomial.PLACES; powers++) {
                int coefficient = polynomial.at(powers);
                if (coefficient != 0) {
                    sum += coefficient * sumOfPowers(rows, powers, group);
                }
            }
            return sum;
        }

        /**
         * The sum of the weights times one combination of powers. It goes
         * along the chain and keeps one sum for each value of the latest
         * column, since a relation joins only neighbouring columns: far fewer
         * steps than one for each joined row.
         */
        private long sumOfPowers(Rows rows, int powers, int group) {
            long[] reached = oneColumn;
            long[] next = otherColumn;
            for (int value = 0; value < VALUES; value++) {
                reached[value] = share(firstRelation, value, powers, group);
            }
            for (int relation = firstRelation; relation <= lastRelation; relation++) {
                for (int y = 0; y < VALUES; y++) {
                    long share = share(relation + 1, y, powers, group);
                    next[y] = share == 0 ? 0 : share * joined(rows, relation, reached, y);
                }
                long[] free = reached;
                reached = next;
                next = free;
            }
            long sum = 0;
            for (int value = 0; value < VALUES; value++) {
                sum += reached[value];
            }
            return sum;
        }

        private static long joined(Rows rows, int relation, long[] reached, int y) {
            long sum = 0;
            for (int x = 0; x < VALUES; x++) {
                sum += reached[x] * rows.at(Rows.placeOf(relation, x, y));
            }
            return sum;
        }

        /** The column's value to its power, or 0 if the question leaves it out. */
        private long share(int column, int value, int powers, int group) {
            if ((allowed[column] >> value & 1) == 0) {
                return 0;
            }
            if (column == groupColumn && group != ALL_GROUPS && value != group) {
                return 0;
            }
            long share = 1;
            int power = Polynomial.powerAt(powers, column);
            for (int i = 0; i < power; i++) {
                share *= value;
            }
            return share;
        }
    }
}
