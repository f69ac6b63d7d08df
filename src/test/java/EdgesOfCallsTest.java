import java.util.Random;
import java.util.function.ToLongFunction;

/** The boundary cases that the document names for all calls together, a test for each. */
public final class EdgesOfCallsTest {
    private static final int REFUSED = JoinKeeper.REFUSED;
    private static final long NONE = JoinKeeper.NONE;
    private static final int[] FAR = {-1, 6, 99, 1 << 16, Integer.MIN_VALUE, Integer.MAX_VALUE};

    public static void main(String[] args) {
        Edges refused = new Edges("terms, refused calls");
        refused.test("numbers out of range answer REFUSED and change nothing", EdgesOfCallsTest::numbersOutOfRange);
        refused.test("NONE where the answer is a long", EdgesOfCallsTest::noneWhereLong);
        refused.test("all that is said to be refused changes nothing", EdgesOfCallsTest::saidToBeRefused);
        refused.test("every call tests its numbers first", EdgesOfCallsTest::numbersFirst);
        refused.test("NONE is greater than every answer", EdgesOfCallsTest::noneIsGreatest);

        Edges life = new Edges("what it is, 512 calls");
        life.test("the 512th call answers as every other", EdgesOfCallsTest::lastCall);
        life.test("refused calls before it do not add up", EdgesOfCallsTest::refusedCallsLeaveNothing);
        life.test("later calls are free, but they end", EdgesOfCallsTest::laterCalls);
        Edges.end(refused, life);
    }

    private static JoinKeeper used() {
        JoinKeeper keeper = Check.with("RS:A+C?B>1/B");
        keeper.define(1);
        keeper.change(0, 1, 2, 3);
        keeper.change(1, 2, 5, -100);
        keeper.change(0, 5, 2, 100);
        return keeper;
    }

    private static void due(Check check, String call, long want, ToLongFunction<JoinKeeper> called) {
        check.dueNoChange(call, used(), called, want);
    }

    private static void numbersOutOfRange(Check check) {
        for (int far : FAR) {
            due(check, "change", REFUSED, k -> k.change(far, 1, 2, 1));
            due(check, "change", REFUSED, k -> k.change(0, far, 2, 1));
            due(check, "change", REFUSED, k -> k.change(0, 1, far, 1));
            due(check, "sign", REFUSED, k -> k.sign(far == 99 ? 127 : far));
            due(check, "define", REFUSED, k -> k.define(far));
            due(check, "drop", REFUSED, k -> k.drop(far));
            due(check, "question", REFUSED, k -> k.question(far, 0));
            due(check, "question", REFUSED, k -> k.question(1, far));
            due(check, "state", REFUSED, k -> k.state(far));
        }
    }

    private static void noneWhereLong(Check check) {
        check.due("NONE", NONE, 9000000000000000000L);
        for (int far : FAR) {
            due(check, "answer", NONE, k -> k.answer(far, 0));
            due(check, "answer", NONE, k -> k.answer(1, far));
            due(check, "total", NONE, k -> k.total(far));
            due(check, "count", NONE, k -> k.count(far, 1, 2));
            due(check, "count", NONE, k -> k.count(0, far, 2));
            due(check, "count", NONE, k -> k.count(0, 1, far));
        }
    }

    private static void saidToBeRefused(Check check) {
        due(check, "change above 100", REFUSED, k -> k.change(0, 5, 2, 1));
        due(check, "change below -100", REFUSED, k -> k.change(1, 2, 5, -1));
        due(check, "drop of none", REFUSED, k -> k.drop(0));
        due(check, "question of none", REFUSED, k -> k.question(0, 1));
        due(check, "answer of none", NONE, k -> k.answer(0, 0));
        due(check, "total of none", NONE, k -> k.total(0));
        check.dueNoChange("back of none", Check.with("R:1"), k -> k.back(), REFUSED);
        check.dueNoChange("the 31st sign", Check.with("RS:1+2+3+4+5+6+7+8+9+8+7+6+5+4"), k -> k.sign('1'), REFUSED);
    }

    private static void numbersFirst(Check check) {
        check.dueNoChange("define(4) of a bad text", Check.with("R:"), k -> k.define(4), REFUSED);
        check.dueNoChange("define(-1) of no text", new JoinKeeper(), k -> k.define(-1), REFUSED);
        check.dueNoChange("define(4) of a large text", Check.with("R:A*A*A"), k -> k.define(4), REFUSED);
        due(check, "question(4, 0), which is not there", REFUSED, k -> k.question(4, 0));
        due(check, "change of no row by far too much", REFUSED, k -> k.change(3, 6, 6, Integer.MAX_VALUE));
    }

    private static void noneIsGreatest(Check check) {
        JoinKeeper keeper = Check.with("RST:8*5*5*5*A*A*B*B*C*C*D*D");
        keeper.define(0);
        for (int row = 0; row < 108; row++) {
            keeper.change(row / 36, row / 6 % 6, row % 6, 100);
        }
        check.holds("NONE > " + keeper.answer(0, 0), NONE > keeper.answer(0, 0));
        check.holds("the answer is more than an int", keeper.answer(0, 0) > Integer.MAX_VALUE);
    }

    /** An object that has had 511 calls, most of them changes. */
    private static JoinKeeper nearlyDone(String text) {
        JoinKeeper keeper = Check.with(text);
        int calls = 1 + text.length();
        keeper.define(0);
        calls++;
        for (int i = 0; calls < 511; i++) {
            keeper.change(0, 1, 1, i % 2 == 0 ? 100 : -100);
            calls++;
        }
        return keeper;
    }

    private static void lastCall(Check check) {
        int changes = 511 - 1 - "R:A+B".length() - 1;
        check.due("changes are even in number", changes % 2, 0);
        check.due("change", nearlyDone("R:A+B").change(0, 1, 1, 100), 0);
        check.due("change", nearlyDone("R:A+B").change(0, 1, 1, 101), REFUSED);
        check.due("back", nearlyDone("R:A+B").back(), changes - 1);
        check.due("sign", nearlyDone("R:A+B").sign('1'), 6);
        check.due("clear", nearlyDone("R:A+B").clear(), 0);
        check.due("define", nearlyDone("R:A+B").define(3), 2);
        check.due("fault", nearlyDone("R:A+B").fault(), -2);
        check.due("drop", nearlyDone("R:A+B").drop(0), 0);
        check.due("answer", nearlyDone("R:A+B").answer(0, 0), 0);
        check.due("total", nearlyDone("R:A+B").total(0), 0);
        check.due("count", nearlyDone("R:A+B").count(0, 1, 1), 0);
        check.due("question", nearlyDone("R:A+B").question(0, 1), 2);
        check.due("state", nearlyDone("R:A+B").state(1), changes);
    }

    private static void refusedCallsLeaveNothing(Check check) {
        JoinKeeper keeper = Check.with("R:A");
        keeper.define(0);
        keeper.change(0, 3, 3, 100);
        for (int calls = 6; calls < 511; calls++) {
            keeper.change(0, 3, 3, 1);
        }
        check.due("the 512th call", keeper.back(), 0);
        JoinKeeper other = Check.with("R:A");
        other.define(0);
        other.change(0, 3, 3, 100);
        for (int calls = 6; calls < 511; calls++) {
            other.sign(32);
        }
        check.due("the 512th call", other.total(0), 300);
    }

    /** Whatever they answer, no call may throw or fail to end. */
    private static void laterCalls(Check check) {
        Random random = new Random(5);
        JoinKeeper keeper = new JoinKeeper();
        for (int call = 0; call < 200000; call++) {
            anyCall(keeper, random);
        }
        JoinKeeper changed = new JoinKeeper();
        for (int call = 0; call < 2000; call++) {
            changed.change(0, 1, 1, 0);
        }
        for (int call = 0; call < 4000; call++) {
            changed.back();
        }
        check.holds("all calls came to their end", true);
    }

    private static void anyCall(JoinKeeper keeper, Random random) {
        int number = random.nextInt(50) == 0 ? random.nextInt() : random.nextInt(8) - 1;
        switch (random.nextInt(14)) {
            case 0 -> keeper.back();
            case 1 -> keeper.sign(33 + random.nextInt(94));
            case 2 -> Check.write(keeper, "RST:(A+" + random.nextInt(10) + ")*-D?B>" + random.nextInt(10) + "/C");
            case 3 -> keeper.clear();
            case 4 -> keeper.define(number);
            case 5 -> keeper.fault();
            case 6 -> keeper.drop(number);
            case 7 -> keeper.answer(number, random.nextInt(6));
            case 8 -> keeper.total(number);
            case 9 -> keeper.count(number, random.nextInt(6), random.nextInt(6));
            case 10 -> keeper.question(number, random.nextInt(6));
            case 11 -> keeper.state(number);
            default -> keeper.change(number, random.nextInt(6), random.nextInt(6), random.nextInt(21) - 10);
        }
    }
}
