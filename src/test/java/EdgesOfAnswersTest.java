/** The boundary cases that promises 9 and 10 and the terms behind them name, a test for each. */
public final class EdgesOfAnswersTest {
    private static final long NONE = JoinKeeper.NONE;
    private static final int[] NO_QUESTIONS = {-1, 4, 5, -4, 256, Integer.MIN_VALUE, Integer.MAX_VALUE};

    public static void main(String[] args) {
        Edges terms = new Edges("terms, ANSWER");
        terms.test("a, b, c, d are 0 .. 5: the first and the last value", EdgesOfAnswersTest::firstAndLastValue);
        terms.test("the WEIGHT with counts 100, -100 and 0", EdgesOfAnswersTest::weights);
        terms.test("no JOINED ROW: neighbours that do not meet", EdgesOfAnswersTest::noJoinedRow);
        terms.test("a condition '=': least, greatest and beyond", EdgesOfAnswersTest::equal);
        terms.test("a condition '#' is: not equal", EdgesOfAnswersTest::notEqual);
        terms.test("a condition '<': none, all but one, all", EdgesOfAnswersTest::less);
        terms.test("a condition '>': none, all but one", EdgesOfAnswersTest::greater);
        terms.test("all conditions: of one column and of several", EdgesOfAnswersTest::allConditions);
        terms.test("have g in that column: of each column", EdgesOfAnswersTest::groupsOfEachColumn);
        terms.test("a polynomial without TERMS answers 0", EdgesOfAnswersTest::noTerms);
        terms.test("the polynomial's value, above, below and at 0", EdgesOfAnswersTest::valuesAroundZero);
        terms.test("a value 0 to the power 0, 1 and 2", EdgesOfAnswersTest::powersOfZero);
        terms.test("no such sum leaves the longs: the greatest and the least", EdgesOfAnswersTest::greatestAndLeast);
        terms.test("without '/': the same for group 0, 0 for the others", EdgesOfAnswersTest::withoutGroup);

        Edges answer = new Edges("promise 9, answer");
        answer.test("question 0 .. 3: no other", EdgesOfAnswersTest::answerOfNoQuestion);
        answer.test("a question that is not there: never, and dropped", EdgesOfAnswersTest::answerOfNone);
        answer.test("group 0 .. 5: no other", EdgesOfAnswersTest::answerForNoGroup);
        answer.test("group 0 .. 5: no other, without '/' too", EdgesOfAnswersTest::answerForNoGroupWithoutColumn);
        answer.test("kept up to date with every change, back and refused change", EdgesOfAnswersTest::keptUpToDate);

        Edges total = new Edges("promise 10, total");
        total.test("question 0 .. 3: no other", EdgesOfAnswersTest::totalOfNoQuestion);
        total.test("a question that is not there: never, and dropped", EdgesOfAnswersTest::totalOfNone);
        total.test("the sum for all groups, that cancel out too", EdgesOfAnswersTest::totalOfGroups);
        total.test("without '/': the answer for group 0", EdgesOfAnswersTest::totalWithoutGroup);
        total.test("of no rows: 0", EdgesOfAnswersTest::totalOfNoRows);
        Edges.end(terms, answer, total);
    }

    private static JoinKeeper defined(String text, int question) {
        JoinKeeper keeper = Check.with(text);
        keeper.define(question);
        return keeper;
    }

    /** R has a row (a, 5 - a) for each a, which counts 2 to the power a. */
    private static JoinKeeper sixRows(String text) {
        JoinKeeper keeper = defined(text, 0);
        for (int value = 0; value < 6; value++) {
            keeper.change(0, value, 5 - value, 1 << value);
        }
        return keeper;
    }

    private static void dueTotal(Check check, String text, long want) {
        check.due("total of " + text, sixRows(text).total(0), want);
    }

    private static void firstAndLastValue(Check check) {
        JoinKeeper keeper = defined("RST:A*8+B*4+C*2+D+1", 0);
        keeper.change(0, 0, 0, 1);
        keeper.change(1, 0, 0, 1);
        keeper.change(2, 0, 0, 1);
        check.due("0, 0, 0, 0", keeper.total(0), 1);
        keeper.change(0, 5, 5, 1);
        keeper.change(1, 5, 5, 1);
        keeper.change(2, 5, 5, 1);
        check.due("and 5, 5, 5, 5", keeper.total(0), 1 + 76);
        keeper.change(1, 0, 5, 1);
        check.due("and 0, 0, 5, 5", keeper.total(0), 1 + 76 + 16);
        keeper.change(1, 5, 0, 1);
        check.due("and 5, 5, 0, 0", keeper.total(0), 1 + 76 + 16 + 61);
    }

    private static void weights(Check check) {
        JoinKeeper keeper = defined("RST:1", 0);
        keeper.change(0, 1, 2, 100);
        check.due("R alone", keeper.total(0), 0);
        keeper.change(1, 2, 3, 100);
        check.due("R and S", keeper.total(0), 0);
        keeper.change(2, 3, 4, 100);
        check.due("100, 100, 100", keeper.total(0), 1000000);
        keeper.change(1, 2, 3, -200);
        check.due("100, -100, 100", keeper.total(0), -1000000);
        keeper.change(2, 3, 4, -200);
        check.due("100, -100, -100", keeper.total(0), 1000000);
        keeper.change(0, 1, 2, -100);
        check.due("0, -100, -100", keeper.total(0), 0);
    }

    private static void noJoinedRow(Check check) {
        JoinKeeper keeper = defined("RS:1", 0);
        keeper.change(0, 2, 3, 10);
        keeper.change(1, 2, 3, 10);
        check.due("b is 3 in R and 2 in S", keeper.total(0), 0);
        keeper.change(1, 3, 2, 10);
        check.due("b is 3 in both", keeper.total(0), 100);
        JoinKeeper other = defined("ST:1", 0);
        other.change(1, 2, 3, 10);
        other.change(2, 2, 3, 10);
        check.due("c is 3 in S and 2 in T", other.total(0), 0);
        other.change(0, 2, 2, 10);
        check.due("R does not matter to ST", other.total(0), 0);
    }

    private static void equal(Check check) {
        dueTotal(check, "R:1?A=0", 1);
        dueTotal(check, "R:1?A=5", 32);
        dueTotal(check, "R:1?A=6", 0);
        dueTotal(check, "R:1?A=9", 0);
        dueTotal(check, "R:1?B=0", 32);
        dueTotal(check, "R:1?B=5", 1);
    }

    private static void notEqual(Check check) {
        dueTotal(check, "R:1?A#0", 62);
        dueTotal(check, "R:1?A#5", 31);
        dueTotal(check, "R:1?A#6", 63);
        dueTotal(check, "R:1?A#9", 63);
        dueTotal(check, "R:1?B#0", 31);
    }

    private static void less(Check check) {
        dueTotal(check, "R:1?A<0", 0);
        dueTotal(check, "R:1?A<1", 1);
        dueTotal(check, "R:1?A<5", 31);
        dueTotal(check, "R:1?A<6", 63);
        dueTotal(check, "R:1?A<9", 63);
        dueTotal(check, "R:1?B<1", 32);
    }

    private static void greater(Check check) {
        dueTotal(check, "R:1?A>0", 62);
        dueTotal(check, "R:1?A>4", 32);
        dueTotal(check, "R:1?A>5", 0);
        dueTotal(check, "R:1?A>9", 0);
        dueTotal(check, "R:1?B>4", 1);
    }

    private static void allConditions(Check check) {
        dueTotal(check, "R:1?A>1?A<4", 4 + 8);
        dueTotal(check, "R:1?A=1?A=2", 0);
        dueTotal(check, "R:1?A=1?A=1", 2);
        dueTotal(check, "R:1?A>1?B>1", 4 + 8);
        dueTotal(check, "R:1?A#0?A#1?A#2?A#3?A#4?A#5", 0);
        dueTotal(check, "R:1?A#0?A#1?A#2?A#3?A#4", 32);
        JoinKeeper keeper = defined("RST:1?A=1?B=2?C=3?D=4", 0);
        keeper.change(0, 1, 2, 2);
        keeper.change(0, 0, 2, 50);
        keeper.change(1, 2, 3, 3);
        keeper.change(1, 2, 2, 50);
        keeper.change(2, 3, 4, 5);
        keeper.change(2, 3, 3, 50);
        check.due("one of each column", keeper.total(0), 30);
    }

    private static void groupsOfEachColumn(Check check) {
        for (int column = 0; column < 4; column++) {
            JoinKeeper keeper = defined("RST:1/" + "ABCD".charAt(column), 0);
            keeper.change(0, 0, 5, 2);
            keeper.change(1, 5, 1, 3);
            keeper.change(2, 1, 4, 5);
            int[] row = {0, 5, 1, 4};
            for (int group = 0; group < 6; group++) {
                check.due("column " + column + " group " + group, keeper.answer(0, group), group == row[column] ? 30 : 0);
            }
        }
    }

    private static void noTerms(Check check) {
        JoinKeeper keeper = sixRows("R:A-A/A");
        for (int group = 0; group < 6; group++) {
            check.due("answer", keeper.answer(0, group), 0);
        }
        check.due("total", keeper.total(0), 0);
    }

    private static void valuesAroundZero(Check check) {
        for (String text : new String[] {"R:A-B", "R:-(B-A)", "R:A-B+0*A*B", "R:2*A-A-B"}) {
            for (int a = 0; a < 6; a++) {
                JoinKeeper keeper = defined(text, 0);
                keeper.change(0, a, 3, 7);
                check.due(text + " at " + a + ", 3", keeper.total(0), 7 * (a - 3));
            }
        }
    }

    private static void powersOfZero(Check check) {
        String[] texts = {"R:1", "R:A", "R:A*A", "R:B", "R:A*B", "R:A+1", "R:(A+1)*(B*B+1)"};
        int[] want = {4, 0, 0, 0, 0, 4, 4};
        for (int i = 0; i < texts.length; i++) {
            JoinKeeper keeper = defined(texts[i], 0);
            keeper.change(0, 0, 0, 4);
            check.due(texts[i], keeper.answer(0, 0), want[i]);
        }
    }

    /** 55 is the sum of the squares of 0 .. 5; all counts are 100 or all of R are -100. */
    private static void greatestAndLeast(Check check) {
        long greatest = 1000L * 100 * 100 * 100 * 55 * 55 * 55 * 55;
        for (int sign = -1; sign <= 1; sign += 2) {
            JoinKeeper keeper = defined("RST:8*5*5*5*A*A*B*B*C*C*D*D/A", 0);
            for (int row = 0; row < 108; row++) {
                keeper.change(row / 36, row / 6 % 6, row % 6, row < 36 ? sign * 100 : 100);
            }
            check.due("total(0)", keeper.total(0), sign * greatest);
            check.due("answer(0, 5)", keeper.answer(0, 5), sign * greatest / 55 * 25);
            check.due("answer(0, 0)", keeper.answer(0, 0), 0);
            check.holds("NONE is greater than every answer", keeper.total(0) < NONE);
        }
    }

    private static void withoutGroup(Check check) {
        JoinKeeper keeper = sixRows("R:A?B<5");
        long want = 2 + 2 * 4 + 3 * 8 + 4 * 16 + 5 * 32;
        check.due("answer(0, 0)", keeper.answer(0, 0), want);
        for (int group = 1; group < 6; group++) {
            check.due("answer(0, " + group + ")", keeper.answer(0, group), 0);
        }
    }

    private static void answerOfNoQuestion(Check check) {
        for (int question : NO_QUESTIONS) {
            check.dueNoChange("answer(" + question + ", 0)", sixRows("R:A"), k -> k.answer(question, 0), NONE);
            check.dueNoChange("answer(" + question + ", 6)", sixRows("R:A"), k -> k.answer(question, 6), NONE);
        }
    }

    private static void answerOfNone(Check check) {
        for (int question = 0; question < 4; question++) {
            JoinKeeper keeper = sixRows("R:A/A");
            keeper.drop(0);
            for (int group = 0; group < 6; group++) {
                check.due("answer(" + question + ", " + group + ")", keeper.answer(question, group), NONE);
            }
        }
    }

    private static void dueNoGroup(Check check, String text) {
        for (int group : new int[] {-1, 6, 7, -6, 256, 1 << 16, Integer.MIN_VALUE, Integer.MAX_VALUE}) {
            check.dueNoChange("answer(0, " + group + ") of " + text, sixRows(text), k -> k.answer(0, group), NONE);
            check.dueNoChange("answer(3, " + group + ") of none", sixRows(text), k -> k.answer(3, group), NONE);
        }
    }

    private static void answerForNoGroup(Check check) {
        dueNoGroup(check, "R:1/A");
    }

    private static void answerForNoGroupWithoutColumn(Check check) {
        dueNoGroup(check, "R:1");
    }

    private static void keptUpToDate(Check check) {
        JoinKeeper keeper = defined("RS:A*C/B", 1);
        check.due("no rows", keeper.answer(1, 5), 0);
        keeper.change(0, 2, 5, 100);
        keeper.change(1, 5, 3, -100);
        check.due("two rows", keeper.answer(1, 5), -60000);
        check.due("a refused change", keeper.change(0, 2, 5, 1), JoinKeeper.REFUSED);
        check.due("after it", keeper.answer(1, 5), -60000);
        keeper.change(1, 5, 3, 0);
        check.due("after a change by 0", keeper.answer(1, 5), -60000);
        keeper.change(0, 2, 5, -200);
        check.due("after a change", keeper.answer(1, 5), 60000);
        keeper.back();
        check.due("after back()", keeper.answer(1, 5), -60000);
        keeper.back();
        keeper.back();
        check.due("after back() of a row", keeper.answer(1, 5), 0);
    }

    private static void totalOfNoQuestion(Check check) {
        for (int question : NO_QUESTIONS) {
            check.dueNoChange("total(" + question + ")", sixRows("R:A"), k -> k.total(question), NONE);
        }
    }

    private static void totalOfNone(Check check) {
        for (int i = 1; i < 4; i++) {
            int question = i;
            check.dueNoChange("total(" + question + ")", sixRows("R:A"), k -> k.total(question), NONE);
        }
        JoinKeeper keeper = sixRows("R:A");
        keeper.drop(0);
        check.due("total(0) of a dropped one", keeper.total(0), NONE);
    }

    private static void totalOfGroups(Check check) {
        JoinKeeper keeper = defined("R:1/B", 0);
        keeper.change(0, 3, 0, 40);
        keeper.change(0, 3, 5, 7);
        keeper.change(0, 4, 5, -47);
        check.due("answer(0, 0)", keeper.answer(0, 0), 40);
        check.due("answer(0, 5)", keeper.answer(0, 5), -40);
        check.due("total(0)", keeper.total(0), 0);
        keeper.change(0, 1, 3, -1);
        check.due("total(0) of -1, the number of REFUSED", keeper.total(0), -1);
    }

    private static void totalWithoutGroup(Check check) {
        JoinKeeper keeper = sixRows("R:A");
        long want = 2 + 2 * 4 + 3 * 8 + 4 * 16 + 5 * 32;
        check.due("answer(0, 0)", keeper.answer(0, 0), want);
        check.due("total(0)", keeper.total(0), want);
    }

    private static void totalOfNoRows(Check check) {
        check.due("grouped", defined("RST:A+1/D", 2).total(2), 0);
        check.due("not grouped", defined("RST:A+1", 2).total(2), 0);
    }
}
