/** The boundary cases that promises 6, 8, 12 and 13 name, a test for each. */
public final class EdgesOfQuestionsTest {
    private static final int REFUSED = JoinKeeper.REFUSED;
    private static final int BAD = JoinKeeper.BAD;
    private static final int LARGE = JoinKeeper.LARGE;
    private static final int[] NO_QUESTIONS = {-1, 4, 5, -4, 256, Integer.MIN_VALUE, Integer.MAX_VALUE};
    private static final String[] BAD_TEXTS = {"", "R", "R:1+", "R:1?A=", "R:C", "R:1)", "!", "R:---------1", "R:9*9*9*9+"};
    private static final String[] LARGE_TEXTS = {"R:A*A*A", "R:9*9*9*9", "R:-8*5*5*5-1", "RST:(A+1)*(B+1)*(C+1)*(D+1)",
        "R:0*(B*B*B)?A=1/B"};

    public static void main(String[] args) {
        Edges define = new Edges("promise 6, define");
        define.test("question 0 .. 3: each of them", EdgesOfQuestionsTest::defineEach);
        define.test("question 0 .. 3: no other, whatever the text", EdgesOfQuestionsTest::defineOfNoQuestion);
        define.test("in the place of one that is there", EdgesOfQuestionsTest::defineInPlace);
        define.test("a sign can't stand: BAD", EdgesOfQuestionsTest::signCannotStand);
        define.test("the text is not a whole one: BAD", EdgesOfQuestionsTest::notWhole);
        define.test("LARGE", EdgesOfQuestionsTest::large);
        define.test("BAD before LARGE", EdgesOfQuestionsTest::badBeforeLarge);
        define.test("its TERMS, from 0 to 12", EdgesOfQuestionsTest::termsFromNoneToMost);
        define.test("its answers count the rows as they are now: none", EdgesOfQuestionsTest::noRows);
        define.test("its answers count the rows as they are now: rows that are gone", EdgesOfQuestionsTest::rowsThatAreGone);
        define.test("after BAD a question that was there stays", EdgesOfQuestionsTest::staysAfterBad);
        define.test("after LARGE a question that was there stays", EdgesOfQuestionsTest::staysAfterLarge);
        define.test("after BAD and LARGE none is there that was not", EdgesOfQuestionsTest::noneAfterBadAndLarge);

        Edges drop = new Edges("promise 8, drop");
        drop.test("question 0 .. 3: no other", EdgesOfQuestionsTest::dropOfNoQuestion);
        drop.test("it is not there: on a new object", EdgesOfQuestionsTest::dropOnNewObject);
        drop.test("it is not there: dropped twice", EdgesOfQuestionsTest::dropTwice);
        drop.test("it is there no more, and the others are", EdgesOfQuestionsTest::dropOfOne);
        drop.test("it can be there again", EdgesOfQuestionsTest::dropAndDefine);

        Edges question = new Edges("promise 12, question");
        question.test("question 0 .. 3: no other", EdgesOfQuestionsTest::whatOfNoQuestion);
        question.test("0: 1 if it is there, else 0", EdgesOfQuestionsTest::isThere);
        question.test("refused if it is not there: 1 to 4", EdgesOfQuestionsTest::whatOfNone);
        question.test("1: its TERMS, 0 and 12", EdgesOfQuestionsTest::leastAndMostTerms);
        question.test("2: its CHAIN, each of the six", EdgesOfQuestionsTest::chains);
        question.test("3: the column behind '/', -2 if there is none", EdgesOfQuestionsTest::groups);
        question.test("4: how many conditions it has, 0 .. 6, the same ones too", EdgesOfQuestionsTest::conditions);
        question.test("another what", EdgesOfQuestionsTest::anotherWhat);

        Edges state = new Edges("promise 13, state");
        state.test("0: the length of the text, 0 and 30", EdgesOfQuestionsTest::stateOfText);
        state.test("1: changes that were not taken back, from 0 to 511", EdgesOfQuestionsTest::stateOfChanges);
        state.test("2: rows with counts other than 0, none and all", EdgesOfQuestionsTest::stateOfRows);
        state.test("2: a count that is 0 again", EdgesOfQuestionsTest::stateOfEmptiedRows);
        state.test("else REFUSED", EdgesOfQuestionsTest::anotherState);
        Edges.end(define, drop, question, state);
    }

    private static JoinKeeper defined(String text, int question) {
        JoinKeeper keeper = Check.with(text);
        keeper.define(question);
        return keeper;
    }

    private static void defineEach(Check check) {
        JoinKeeper keeper = new JoinKeeper();
        String[] texts = {"R:A", "S:B+1", "T:C+D+1", "RST:A+B+C+D"};
        for (int question = 0; question < 4; question++) {
            Check.write(keeper, texts[question]);
            check.due("define(" + question + ")", keeper.define(question), question + 1);
        }
        for (int question = 0; question < 4; question++) {
            check.due("question(" + question + ", 1)", keeper.question(question, 1), question + 1);
        }
    }

    private static void defineOfNoQuestion(Check check) {
        for (int question : NO_QUESTIONS) {
            for (String text : new String[] {"R:A", "", "R:!", "R:A*A*A"}) {
                JoinKeeper keeper = defined("S:B", 1);
                Check.write(keeper, text);
                check.dueNoChange("define(" + question + ") of " + text, keeper, k -> k.define(question), REFUSED);
            }
        }
    }

    private static void defineInPlace(Check check) {
        JoinKeeper keeper = defined("RST:A+D+1?A>1?D<4/B", 3);
        keeper.change(0, 0, 0, 2);
        Check.write(keeper, "R:5");
        check.due("define(3)", keeper.define(3), 1);
        check.due("its TERMS", keeper.question(3, 1), 1);
        check.due("its CHAIN", keeper.question(3, 2), 1);
        check.due("its column", keeper.question(3, 3), -2);
        check.due("its conditions", keeper.question(3, 4), 0);
        check.due("its total", keeper.total(3), 10);
        check.due("define(3) of the same text", keeper.define(3), 1);
        check.due("its total", keeper.total(3), 10);
    }

    private static void signCannotStand(Check check) {
        for (String text : new String[] {"!", "RR:1", "R:1)", "R:C", "R:1/A/B", "R:---------1", "R:1!1"}) {
            check.dueDefine(text, BAD);
        }
    }

    private static void notWhole(Check check) {
        for (String text : new String[] {"", "R", "R:", "R:-", "R:(1", "R:1+", "R:1?A", "R:1/",
                "R:1+1+1+1+1+1+1+1+1+1+1+1+1+1+"}) {
            check.dueDefine(text, BAD);
        }
    }

    private static void large(Check check) {
        for (String text : LARGE_TEXTS) {
            check.dueDefine(text, LARGE);
        }
    }

    private static void badBeforeLarge(Check check) {
        for (String text : new String[] {"R:A*A*A+", "R:9*9*9*9/", "R:A*A*A?C", "R:9*9*9*9)", "R:(A*A*A"}) {
            check.dueDefine(text, BAD);
        }
    }

    private static void termsFromNoneToMost(Check check) {
        String[] texts = {"R:0", "R:1", "R:A+1", "R:A+B+1", "RS:A+B+C+1", "RST:A+B+C+D+1", "RST:A+B+C+D+1+A*A",
            "RST:A+B+C+D+1+A*A+B*B", "RS:(A+1)*(B+1)*(C+1)", "R:(A*A+A+1)*(B*B+B+1)", "RS:(A*A+A+1)*(B*B+B+1)+C",
            "RST:(A+B+C+D)*(A+B+1)", "RS:(A*A+A+1)*(B+1)*(C+1)"};
        for (int terms = 0; terms <= 12; terms++) {
            check.dueDefine(texts[terms], terms);
        }
    }

    private static void noRows(Check check) {
        JoinKeeper keeper = defined("RST:1/A", 0);
        for (int group = 0; group < 6; group++) {
            check.due("answer(0, " + group + ")", keeper.answer(0, group), 0);
        }
        check.due("total(0)", keeper.total(0), 0);
    }

    private static void rowsThatAreGone(Check check) {
        JoinKeeper keeper = Check.with("R:A");
        keeper.change(0, 3, 3, 5);
        keeper.change(0, 2, 2, 7);
        keeper.back();
        keeper.change(0, 4, 4, 1);
        keeper.change(0, 4, 4, -1);
        check.due("define(0)", keeper.define(0), 1);
        check.due("total(0)", keeper.total(0), 15);
    }

    /** Each of these texts leaves the question in its place as it was, and everything else too. */
    private static void dueStays(Check check, String[] texts, int want) {
        for (String text : texts) {
            JoinKeeper keeper = Check.with("ST:B*D+2?C>1?D=3/B");
            keeper.change(1, 4, 2, 3);
            keeper.change(2, 2, 3, 5);
            keeper.define(2);
            Check.write(keeper, text);
            check.dueNoChange("define(2) of " + text, keeper, k -> k.define(2), want);
            check.due("its answer after " + text, keeper.answer(2, 4), 15 * 14);
            check.due("its TERMS after " + text, keeper.question(2, 1), 2);
        }
    }

    private static void staysAfterBad(Check check) {
        dueStays(check, BAD_TEXTS, BAD);
    }

    private static void staysAfterLarge(Check check) {
        dueStays(check, LARGE_TEXTS, LARGE);
    }

    private static void noneAfterBadAndLarge(Check check) {
        for (String text : BAD_TEXTS) {
            check.dueNoChange("define(1) of " + text, Check.with(text), k -> k.define(1), BAD);
        }
        for (String text : LARGE_TEXTS) {
            check.dueNoChange("define(1) of " + text, Check.with(text), k -> k.define(1), LARGE);
        }
    }

    private static void dropOfNoQuestion(Check check) {
        for (int question : NO_QUESTIONS) {
            check.dueNoChange("drop(" + question + ")", defined("R:A", 0), k -> k.drop(question), REFUSED);
        }
    }

    private static void dropOnNewObject(Check check) {
        for (int i = 0; i < 4; i++) {
            int question = i;
            check.dueNoChange("drop(" + question + ")", new JoinKeeper(), k -> k.drop(question), REFUSED);
        }
    }

    private static void dropTwice(Check check) {
        JoinKeeper keeper = defined("R:A", 3);
        check.due("drop(3)", keeper.drop(3), 0);
        check.dueNoChange("drop(3) again", keeper, k -> k.drop(3), REFUSED);
    }

    private static void dropOfOne(Check check) {
        JoinKeeper keeper = Check.with("R:A/B");
        keeper.change(0, 3, 5, 2);
        for (int question = 0; question < 4; question++) {
            keeper.define(question);
        }
        check.due("drop(0)", keeper.drop(0), 0);
        check.due("drop(3)", keeper.drop(3), 0);
        for (int question = 0; question < 4; question++) {
            boolean there = question == 1 || question == 2;
            check.due("question(" + question + ", 0)", keeper.question(question, 0), there ? 1 : 0);
            check.due("question(" + question + ", 1)", keeper.question(question, 1), there ? 1 : REFUSED);
            check.due("answer(" + question + ", 5)", keeper.answer(question, 5), there ? 6 : JoinKeeper.NONE);
            check.due("total(" + question + ")", keeper.total(question), there ? 6 : JoinKeeper.NONE);
        }
        check.due("the text stays", keeper.state(0), 5);
        check.due("the change stays", keeper.state(1), 1);
    }

    private static void dropAndDefine(Check check) {
        JoinKeeper keeper = defined("RS:A+C?B=1/C", 2);
        keeper.drop(2);
        Check.write(keeper, "R:B");
        keeper.change(0, 1, 4, 3);
        check.due("define(2)", keeper.define(2), 1);
        check.due("its conditions", keeper.question(2, 4), 0);
        check.due("its total", keeper.total(2), 12);
        check.due("drop(2)", keeper.drop(2), 0);
        check.due("drop(2) again", keeper.drop(2), REFUSED);
    }

    private static void whatOfNoQuestion(Check check) {
        for (int question : NO_QUESTIONS) {
            for (int i = -1; i <= 5; i++) {
                int what = i;
                check.dueNoChange("question(" + question + ", " + what + ")", defined("R:A", 0),
                    k -> k.question(question, what), REFUSED);
            }
        }
    }

    private static void isThere(Check check) {
        for (int question = 0; question < 4; question++) {
            JoinKeeper keeper = Check.with("R:0");
            check.due("before", keeper.question(question, 0), 0);
            keeper.define(question);
            for (int other = 0; other < 4; other++) {
                check.due("question(" + other + ", 0)", keeper.question(other, 0), other == question ? 1 : 0);
            }
            keeper.drop(question);
            check.due("after", keeper.question(question, 0), 0);
        }
    }

    private static void whatOfNone(Check check) {
        JoinKeeper keeper = defined("RST:A+1?B=2/C", 1);
        keeper.drop(1);
        for (int what = 1; what <= 4; what++) {
            check.due("never there", keeper.question(0, what), REFUSED);
            check.due("dropped", keeper.question(1, what), REFUSED);
        }
    }

    private static void leastAndMostTerms(Check check) {
        check.due("0 TERMS", defined("R:A-A", 0).question(0, 1), 0);
        check.due("12 TERMS", defined("RS:(A*A+A+1)*(B+1)*(C+1)", 0).question(0, 1), 12);
    }

    private static void chains(Check check) {
        String[] chains = {"R", "S", "T", "RS", "ST", "RST"};
        int[] want = {1, 2, 4, 3, 6, 7};
        for (int i = 0; i < chains.length; i++) {
            check.due(chains[i], defined(chains[i] + ":1", 0).question(0, 2), want[i]);
        }
    }

    private static void groups(Check check) {
        check.due("none", defined("RST:1", 0).question(0, 3), -2);
        check.due("none but a condition", defined("RST:1?A=1", 0).question(0, 3), -2);
        for (int column = 0; column < 4; column++) {
            String text = "RST:1/" + "ABCD".charAt(column);
            check.due(text, defined(text, 0).question(0, 3), column);
        }
    }

    private static void conditions(Check check) {
        String text = "R:1";
        for (int conditions = 0; conditions <= 6; conditions++) {
            check.due(text, defined(text, 0).question(0, 4), conditions);
            text += "?A=1";
        }
        check.due("six and a column", defined("RS:1?A=1?A=1?A=1?A=1?A=1?A=1/C", 0).question(0, 4), 6);
    }

    private static void anotherWhat(Check check) {
        for (int what : new int[] {-1, 5, 6, -2, 256, 1 << 16, Integer.MIN_VALUE, Integer.MAX_VALUE}) {
            check.dueNoChange("question(0, " + what + ")", defined("R:A", 0), k -> k.question(0, what), REFUSED);
            check.dueNoChange("question(3, " + what + ")", defined("R:A", 0), k -> k.question(3, what), REFUSED);
        }
    }

    private static void stateOfText(Check check) {
        JoinKeeper keeper = new JoinKeeper();
        check.due("empty", keeper.state(0), 0);
        for (int length = 1; length <= 30; length++) {
            keeper.sign('~');
        }
        check.due("full", keeper.state(0), 30);
        keeper.sign('~');
        check.due("full", keeper.state(0), 30);
        keeper.clear();
        check.due("empty again", keeper.state(0), 0);
    }

    private static void stateOfChanges(Check check) {
        JoinKeeper keeper = new JoinKeeper();
        check.due("none", keeper.state(1), 0);
        keeper.change(0, 0, 0, 1);
        check.due("one", keeper.state(1), 1);
        keeper.back();
        check.due("none", keeper.state(1), 0);
        JoinKeeper full = new JoinKeeper();
        for (int call = 1; call <= 511; call++) {
            full.change(call % 3, call % 6, call % 5, 0);
        }
        check.due("the 512th call", full.state(1), 511);
    }

    private static void stateOfRows(Check check) {
        JoinKeeper keeper = new JoinKeeper();
        check.due("none", keeper.state(2), 0);
        for (int row = 0; row < 108; row++) {
            keeper.change(row / 36, row / 6 % 6, row % 6, row % 2 == 0 ? 1 : -100);
            check.due("row " + row, keeper.state(2), row + 1);
        }
    }

    private static void stateOfEmptiedRows(Check check) {
        JoinKeeper keeper = new JoinKeeper();
        keeper.change(0, 0, 0, 0);
        check.due("by 0", keeper.state(2), 0);
        keeper.change(0, 0, 0, -3);
        keeper.change(2, 5, 5, 8);
        check.due("two", keeper.state(2), 2);
        keeper.change(0, 0, 0, 3);
        check.due("one by a change", keeper.state(2), 1);
        keeper.back();
        check.due("two by back()", keeper.state(2), 2);
        keeper.back();
        check.due("one by back()", keeper.state(2), 1);
    }

    private static void anotherState(Check check) {
        for (int what : new int[] {-1, 3, 4, -2, 256, 1 << 16, Integer.MIN_VALUE, Integer.MAX_VALUE}) {
            check.dueNoChange("state(" + what + ")", defined("R:A", 0), k -> k.state(what), REFUSED);
        }
    }
}
