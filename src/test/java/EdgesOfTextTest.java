/** The boundary cases that promises 1, 4, 5 and 7 name, a test for each. */
public final class EdgesOfTextTest {
    private static final int REFUSED = JoinKeeper.REFUSED;
    private static final String FULL = "RS:1+2+3+4+5+6+7+8+9+8+7+6+5+4";

    public static void main(String[] args) {
        Edges made = new Edges("promise 1, a new object");
        made.test("no question is there", EdgesOfTextTest::noQuestion);
        made.test("the text is empty", EdgesOfTextTest::newTextIsEmpty);

        Edges sign = new Edges("promise 4, sign");
        sign.test("33 .. 126: each of them", EdgesOfTextTest::everySign);
        sign.test("33 .. 126: too small", EdgesOfTextTest::signTooSmall);
        sign.test("33 .. 126: too large", EdgesOfTextTest::signTooLarge);
        sign.test("it has 30 signs", EdgesOfTextTest::fullText);
        sign.test("the 30th sign is taken as it is", EdgesOfTextTest::lastSign);
        sign.test("answers the length, 1 .. 30", EdgesOfTextTest::lengths);

        Edges clear = new Edges("promise 5, clear");
        clear.test("of an empty text", EdgesOfTextTest::clearOfEmpty);
        clear.test("of a full text", EdgesOfTextTest::clearOfFull);
        clear.test("nothing but the text", EdgesOfTextTest::clearOfNothingElse);

        Edges fault = new Edges("promise 7, fault");
        fault.test("the first sign of the text, place 0", EdgesOfTextTest::faultAtFirst);
        fault.test("the last sign of a full text, place 29", EdgesOfTextTest::faultAtLast);
        fault.test("the first of many that can't stand", EdgesOfTextTest::firstOfMany);
        fault.test("its length if all can: 0 of an empty text", EdgesOfTextTest::faultOfEmpty);
        fault.test("its length if all can: 30 of a full text", EdgesOfTextTest::faultOfFullBegin);
        fault.test("-2 if it is a whole one: the shortest", EdgesOfTextTest::faultOfShortest);
        fault.test("-2 if it is a whole one: a full one", EdgesOfTextTest::faultOfFull);
        fault.test("-2 if it is a whole one, large or not", EdgesOfTextTest::faultOfLarge);
        fault.test("it changes nothing", EdgesOfTextTest::faultChangesNothing);
        Edges.end(made, sign, clear, fault);
    }

    private static void noQuestion(Check check) {
        JoinKeeper keeper = new JoinKeeper();
        for (int question = 0; question < 4; question++) {
            check.due("question(" + question + ", 0)", keeper.question(question, 0), 0);
            check.due("question(" + question + ", 1)", keeper.question(question, 1), REFUSED);
            check.due("drop(" + question + ")", keeper.drop(question), REFUSED);
            check.due("total(" + question + ")", keeper.total(question), JoinKeeper.NONE);
            check.due("answer(" + question + ", 0)", keeper.answer(question, 0), JoinKeeper.NONE);
        }
    }

    private static void newTextIsEmpty(Check check) {
        JoinKeeper keeper = new JoinKeeper();
        check.due("the length", keeper.state(0), 0);
        check.due("fault()", keeper.fault(), 0);
        check.due("define(0)", keeper.define(0), JoinKeeper.BAD);
        check.due("the first sign", keeper.sign('R'), 1);
    }

    private static void everySign(Check check) {
        for (int code = 33; code <= 126; code++) {
            JoinKeeper keeper = new JoinKeeper();
            check.due("sign(" + code + ")", keeper.sign(code), 1);
            check.due("the length", keeper.state(0), 1);
            boolean begins = code == 'R' || code == 'S' || code == 'T';
            check.due("fault() of sign " + code, keeper.fault(), begins ? 1 : 0);
        }
    }

    private static void dueNoSign(Check check, int code) {
        check.dueNoChange("sign(" + code + ")", Check.with("R:1"), k -> k.sign(code), REFUSED);
    }

    private static void signTooSmall(Check check) {
        for (int code : new int[] {32, 31, 10, 0, -1, -33, -126, 'R' - 256, 'R' - 65536, Integer.MIN_VALUE}) {
            dueNoSign(check, code);
        }
    }

    private static void signTooLarge(Check check) {
        for (int code : new int[] {127, 128, 255, '+' + 256, '+' + 65536, Integer.MAX_VALUE}) {
            dueNoSign(check, code);
        }
    }

    private static void fullText(Check check) {
        check.due("the length", Check.with(FULL).state(0), 30);
        for (int code : new int[] {'1', '+', 33, 126, 32, 127}) {
            check.dueNoChange("sign(" + code + ")", Check.with(FULL), k -> k.sign(code), REFUSED);
        }
        JoinKeeper keeper = Check.with(FULL);
        keeper.sign('+');
        check.due("define of the text without the refused sign", keeper.define(0), 1);
    }

    private static void lastSign(Check check) {
        JoinKeeper keeper = Check.with(FULL.substring(0, 29));
        check.due("the length", keeper.state(0), 29);
        check.due("without the 30th", keeper.define(0), JoinKeeper.BAD);
        check.due("the 30th", keeper.sign('4'), 30);
        check.due("with the 30th", keeper.define(0), 1);
        keeper.change(0, 0, 0, 1);
        keeper.change(1, 0, 0, 1);
        check.due("the 30th counts", keeper.total(0), 1 + 2 + 3 + 4 + 5 + 6 + 7 + 8 + 9 + 8 + 7 + 6 + 5 + 4);
    }

    private static void lengths(Check check) {
        JoinKeeper keeper = new JoinKeeper();
        for (int length = 1; length <= 30; length++) {
            check.due("sign " + length, keeper.sign(FULL.charAt(length - 1)), length);
            check.due("state(0)", keeper.state(0), length);
        }
    }

    private static void clearOfEmpty(Check check) {
        check.dueNoChange("clear()", new JoinKeeper(), k -> k.clear(), JoinKeeper.DONE);
        JoinKeeper cleared = Check.with("R");
        check.due("clear()", cleared.clear(), 0);
        check.due("clear() again", cleared.clear(), 0);
        check.due("the length", cleared.state(0), 0);
    }

    private static void clearOfFull(Check check) {
        JoinKeeper keeper = Check.with(FULL);
        check.due("clear()", keeper.clear(), 0);
        check.due("the length", keeper.state(0), 0);
        check.due("fault()", keeper.fault(), 0);
        for (int length = 1; length <= 30; length++) {
            check.due("sign " + length, keeper.sign('('), length);
        }
        check.due("the 31st", keeper.sign('('), REFUSED);
        check.due("fault()", keeper.fault(), 0);
    }

    private static void clearOfNothingElse(Check check) {
        JoinKeeper keeper = Check.with("R:A?B<3/A");
        keeper.define(3);
        keeper.change(0, 4, 2, 9);
        keeper.clear();
        check.due("the question is there", keeper.question(3, 0), 1);
        check.due("its conditions", keeper.question(3, 4), 1);
        check.due("its answer", keeper.answer(3, 4), 36);
        check.due("the change", keeper.state(1), 1);
        check.due("define of the empty text", keeper.define(3), JoinKeeper.BAD);
        check.due("its answer", keeper.answer(3, 4), 36);
    }

    private static void faultAtFirst(Check check) {
        for (String text : new String[] {":", "A", "U", "Q", "r", "1", "-", "(", "!", "~", "A:1", ":R:1"}) {
            check.dueFault(text, 0);
        }
    }

    private static void faultAtLast(Check check) {
        String begin = FULL.substring(0, 29);
        for (char sign : new char[] {'+', '*', ')', '?', '/', ':', 'D', 'R', '!', '~'}) {
            check.dueFault(begin + sign, 29);
        }
    }

    private static void firstOfMany(Check check) {
        check.dueFault("R!!!", 1);
        check.dueFault("R:1)+)", 3);
        check.dueFault("R:C+D", 2);
        check.dueFault("RSR:1", 2);
        check.dueFault("!R:1", 0);
        check.dueFault("R:1?C=1/D", 4);
        check.dueFault("R::1", 2);
    }

    private static void faultOfEmpty(Check check) {
        check.due("fault() of a new object", new JoinKeeper().fault(), 0);
        JoinKeeper keeper = Check.with("R:1");
        keeper.clear();
        check.due("fault() after clear()", keeper.fault(), 0);
    }

    private static void dueFaultOfFull(Check check, String text, int want) {
        check.due("signs of " + text, text.length(), 30);
        check.dueFault(text, want);
    }

    private static void faultOfFullBegin(Check check) {
        dueFaultOfFull(check, "R:1+2+3+4+5+6+7+8+9+8+7+6+5+4+", 30);
        dueFaultOfFull(check, "R:1+2+3+4+5+6+7+8+9+8+((((((((", 30);
        dueFaultOfFull(check, "R:1+2+3+4+5+6+7+8+9+8+7+6+5?A=", 30);
        dueFaultOfFull(check, "RST:1+2+3+4+5+6+7+8+9+8+7+6+5/", 30);
        dueFaultOfFull(check, "R:(1+2+3+4+5+6+7+8+9+8+7+6+5+4", 30);
    }

    private static void faultOfShortest(Check check) {
        for (String text : new String[] {"R:0", "S:9", "T:C", "R:B"}) {
            check.dueFault(text, -2);
        }
    }

    private static void faultOfFull(Check check) {
        dueFaultOfFull(check, FULL, -2);
        dueFaultOfFull(check, "RS:1?A=0?A#1?A<2?A>3?B=4?C#9/A", -2);
        dueFaultOfFull(check, "RS:(((1+2+3+4+5+6+7+8+9)))?A=0", -2);
        dueFaultOfFull(check, "RST:1+2+3+4+5+6+7+8+9+8+7+-6/D", -2);
    }

    private static void faultOfLarge(Check check) {
        check.dueFault("R:A*A*A", -2);
        check.dueFault("R:9*9*9*9", -2);
        check.dueFault("RST:(A+1)*(B+1)*(C+1)*(D+1)", -2);
    }

    private static void faultChangesNothing(Check check) {
        JoinKeeper keeper = Check.with("R:1+!");
        check.dueNoChange("fault()", keeper, k -> k.fault(), 4);
        JoinKeeper whole = Check.with("R:A");
        check.due("fault()", whole.fault(), -2);
        check.due("fault() makes no question", whole.question(0, 0), 0);
        check.due("the text stays", whole.define(0), 1);
    }
}
