import java.util.function.ToLongFunction;

/** Every call with numbers out of range is refused and changes nothing. */
public final class WrongNumbersTest {
    private static final Check CHECK = new Check();
    private static final int[] FAR = {-1, Integer.MIN_VALUE, Integer.MAX_VALUE, 1 << 16, -256};

    public static void main(String[] args) {
        for (int far : FAR) {
            numbers(far, far, far);
        }
        numbers(3, 6, 4);
        CHECK.end();
    }

    private static void numbers(int relation, int value, int question) {
        refused("change", -1, keeper -> keeper.change(relation, 0, 0, 1));
        refused("change", -1, keeper -> keeper.change(0, value, 0, 1));
        refused("change", -1, keeper -> keeper.change(0, 0, value, 1));
        refused("change", -1, keeper -> keeper.change(0, value, value, 0));
        refused("count", JoinKeeper.NONE, keeper -> keeper.count(relation, 0, 0));
        refused("count", JoinKeeper.NONE, keeper -> keeper.count(0, value, 0));
        refused("count", JoinKeeper.NONE, keeper -> keeper.count(0, 0, value));
        refused("define", -1, keeper -> keeper.define(question));
        refused("drop", -1, keeper -> keeper.drop(question));
        refused("answer", JoinKeeper.NONE, keeper -> keeper.answer(question, 0));
        refused("answer", JoinKeeper.NONE, keeper -> keeper.answer(0, value));
        refused("answer", JoinKeeper.NONE, keeper -> keeper.answer(1, value));
        refused("total", JoinKeeper.NONE, keeper -> keeper.total(question));
        refused("question", -1, keeper -> keeper.question(question, 0));
        refused("question", -1, keeper -> keeper.question(question, 1));
        refused("question", -1, keeper -> keeper.question(0, question < 0 ? question : question + 1));
        refused("state", -1, keeper -> keeper.state(relation));
        refused("sign", -1, keeper -> keeper.sign(question));

        refused("define of a bad text", -1, keeper -> {
            keeper.sign('!');
            long answer = keeper.define(question);
            Check.write(keeper, "R:A/B");
            return answer;
        });
        refused("drop of none", -1, keeper -> keeper.drop(3));
        refused("answer of none", JoinKeeper.NONE, keeper -> keeper.answer(3, 0));
        refused("total of none", JoinKeeper.NONE, keeper -> keeper.total(3));
        refused("question of none", -1, keeper -> keeper.question(3, 1));
    }

    private static void refused(String name, long want, ToLongFunction<JoinKeeper> call) {
        JoinKeeper keeper = new JoinKeeper();
        keeper.change(0, 0, 0, 7);
        keeper.change(0, 5, 5, -7);
        keeper.change(2, 0, 5, 1);
        Check.write(keeper, "RST:1");
        keeper.define(1);
        Check.write(keeper, "R:A/B");
        keeper.define(0);
        String before = Check.readAll(keeper);
        CHECK.due(name + " with a wrong number", call.applyAsLong(keeper), want);
        CHECK.holds(name + " with a wrong number changes nothing", Check.readAll(keeper).equals(before));
    }
}
