/** Promise 1: a new object. */
public final class NewObjectTest {
    public static void main(String[] args) {
        Check check = new Check();
        JoinKeeper keeper = new JoinKeeper();
        check.due("state(0)", keeper.state(0), 0);
        check.due("state(1)", keeper.state(1), 0);
        check.due("state(2)", keeper.state(2), 0);
        check.due("fault()", keeper.fault(), 0);
        check.due("back()", keeper.back(), -1);
        for (int question = 0; question < 4; question++) {
            check.due("question(" + question + ", 0)", keeper.question(question, 0), 0);
            check.due("answer(" + question + ", 0)", keeper.answer(question, 0), JoinKeeper.NONE);
            check.due("total(" + question + ")", keeper.total(question), JoinKeeper.NONE);
            check.due("drop(" + question + ")", keeper.drop(question), -1);
        }
        for (int row = 0; row < 108; row++) {
            check.due("count of row " + row, keeper.count(row / 36, row / 6 % 6, row % 6), 0);
        }

        JoinKeeper used = new JoinKeeper();
        used.change(0, 1, 1, 1);
        Check.write(used, "R:1");
        used.define(0);
        check.due("objects share no rows", new JoinKeeper().state(2), 0);
        check.due("objects share no text", new JoinKeeper().state(0), 0);
        check.due("objects share no questions", new JoinKeeper().question(0, 0), 0);
        check.end();
    }
}
