/** Promises 9 and 10: answer and total. */
public final class AnswerTest {
    private static final Check CHECK = new Check();

    public static void main(String[] args) {
        chainsHaveTheirOwnColumns();
        conditions();
        groups();
        rowsAsTheyAre();
        questionsAreTheirOwn();
        powersOfZero();
        greatest();
        CHECK.end();
    }

    private static long totalOf(JoinKeeper keeper, String text) {
        Check.write(keeper, text);
        CHECK.holds(text + " can be defined", keeper.define(0) >= 0);
        return keeper.total(0);
    }

    private static JoinKeeper threeRows() {
        JoinKeeper keeper = new JoinKeeper();
        keeper.change(0, 1, 2, 3);
        keeper.change(1, 2, 4, -5);
        keeper.change(2, 4, 5, 7);
        return keeper;
    }

    private static void chainsHaveTheirOwnColumns() {
        CHECK.due("R:1", totalOf(threeRows(), "R:1"), 3);
        CHECK.due("S:1", totalOf(threeRows(), "S:1"), -5);
        CHECK.due("T:1", totalOf(threeRows(), "T:1"), 7);
        CHECK.due("RS:1", totalOf(threeRows(), "RS:1"), -15);
        CHECK.due("ST:1", totalOf(threeRows(), "ST:1"), -35);
        CHECK.due("RST:1", totalOf(threeRows(), "RST:1"), -105);
        CHECK.due("R:A*9+B", totalOf(threeRows(), "R:A*9+B"), 3 * 11);
        CHECK.due("S:B*9+C", totalOf(threeRows(), "S:B*9+C"), -5 * 22);
        CHECK.due("T:C*9+D", totalOf(threeRows(), "T:C*9+D"), 7 * 41);
        CHECK.due("RST:A*B*B*C-D", totalOf(threeRows(), "RST:A*B*B*C-D"), -105 * 11);
        JoinKeeper apart = threeRows();
        apart.change(1, 2, 4, 5);
        apart.change(1, 3, 4, 1);
        CHECK.due("no row of R joins one of S", totalOf(apart, "RS:1"), 0);
        CHECK.due("one of S joins one of T", totalOf(apart, "ST:1"), 7);
    }

    private static void conditions() {
        JoinKeeper keeper = new JoinKeeper();
        for (int value = 0; value < 6; value++) {
            keeper.change(0, value, 5 - value, 1 << value);
        }
        CHECK.due("A=3", totalOf(keeper, "R:1?A=3"), 8);
        CHECK.due("A#3", totalOf(keeper, "R:1?A#3"), 55);
        CHECK.due("A<3", totalOf(keeper, "R:1?A<3"), 7);
        CHECK.due("A>3", totalOf(keeper, "R:1?A>3"), 48);
        CHECK.due("A=0", totalOf(keeper, "R:1?A=0"), 1);
        CHECK.due("A<0", totalOf(keeper, "R:1?A<0"), 0);
        CHECK.due("A>5", totalOf(keeper, "R:1?A>5"), 0);
        CHECK.due("A=9", totalOf(keeper, "R:1?A=9"), 0);
        CHECK.due("A#9", totalOf(keeper, "R:1?A#9"), 63);
        CHECK.due("A<9", totalOf(keeper, "R:1?A<9"), 63);
        CHECK.due("B=0", totalOf(keeper, "R:1?B=0"), 32);
        JoinKeeper other = new JoinKeeper();
        for (int value = 0; value < 6; value++) {
            other.change(0, value, 5 - value, 1 << value);
        }
        CHECK.due("A>1 A<4", totalOf(other, "R:1?A>1?A<4"), 12);
        CHECK.due("A>1 B>1", totalOf(other, "R:1?A>1?B>1"), 12);
        CHECK.due("A=1 A=2", totalOf(other, "R:1?A=1?A=2"), 0);
        CHECK.due("A=1 A=1", totalOf(other, "R:1?A=1?A=1"), 2);
    }

    private static void groups() {
        JoinKeeper keeper = new JoinKeeper();
        for (int value = 0; value < 6; value++) {
            keeper.change(0, value, 0, value + 1);
            keeper.change(0, value, 5, 10);
        }
        Check.write(keeper, "R:2/A");
        keeper.define(0);
        Check.write(keeper, "R:2/B");
        keeper.define(1);
        Check.write(keeper, "R:2");
        keeper.define(2);
        Check.write(keeper, "R:2?A>3/A");
        keeper.define(3);
        for (int group = 0; group < 6; group++) {
            CHECK.due("by A " + group, keeper.answer(0, group), 2 * (group + 11));
            CHECK.due("by B " + group, keeper.answer(1, group), group == 0 ? 42 : group == 5 ? 120 : 0);
            CHECK.due("by none " + group, keeper.answer(2, group), group == 0 ? 162 : 0);
            CHECK.due("by A > 3 " + group, keeper.answer(3, group), group > 3 ? 2 * (group + 11) : 0);
        }
        for (int question = 0; question < 3; question++) {
            CHECK.due("total(" + question + ")", keeper.total(question), 162);
            CHECK.due("answer for group -1", keeper.answer(question, -1), JoinKeeper.NONE);
            CHECK.due("answer for group 6", keeper.answer(question, 6), JoinKeeper.NONE);
        }
        CHECK.due("total(3)", keeper.total(3), 62);
        CHECK.due("total(4)", keeper.total(4), JoinKeeper.NONE);
        CHECK.due("total(-1)", keeper.total(-1), JoinKeeper.NONE);
    }

    private static void rowsAsTheyAre() {
        JoinKeeper keeper = threeRows();
        Check.write(keeper, "RST:A+D/C");
        keeper.define(3);
        CHECK.due("rows from before", keeper.answer(3, 4), -105 * 6);
        keeper.change(1, 2, 4, 6);
        CHECK.due("after a change", keeper.answer(3, 4), 21 * 6);
        keeper.change(1, 2, 4, 100);
        CHECK.due("after a refused change", keeper.answer(3, 4), 21 * 6);
        keeper.change(1, 2, 0, 2);
        keeper.change(2, 0, 0, 2);
        CHECK.due("another group", keeper.answer(3, 0), 12);
        CHECK.due("all groups", keeper.total(3), 12 + 126);
        keeper.back();
        keeper.back();
        keeper.back();
        CHECK.due("after back", keeper.total(3), -105 * 6);
        keeper.back();
        CHECK.due("a row of T is gone", keeper.total(3), 0);
    }

    private static void questionsAreTheirOwn() {
        JoinKeeper keeper = threeRows();
        String[] texts = {"R:A", "ST:D-1/B", "RST:2", "T:C*C"};
        for (int question = 0; question < 4; question++) {
            Check.write(keeper, texts[question]);
            keeper.define(question);
        }
        CHECK.due("total(0)", keeper.total(0), 3);
        CHECK.due("total(1)", keeper.total(1), -140);
        CHECK.due("answer(1, 2)", keeper.answer(1, 2), -140);
        CHECK.due("total(2)", keeper.total(2), -210);
        CHECK.due("total(3)", keeper.total(3), 112);
    }

    private static void powersOfZero() {
        JoinKeeper keeper = new JoinKeeper();
        keeper.change(0, 0, 0, 4);
        CHECK.due("1 at 0, 0", totalOf(keeper, "R:1"), 4);
        CHECK.due("A at 0, 0", totalOf(keeper, "R:A"), 0);
        CHECK.due("A*A+B+1 at 0, 0", totalOf(keeper, "R:A*A+B+1"), 4);
        CHECK.due("(A+1)*(B+1) at 0, 0", totalOf(keeper, "R:(A+1)*(B+1)"), 4);
        CHECK.due("0 at 0, 0", totalOf(keeper, "R:0"), 0);
    }

    /** Sums far beyond the ints: every count is 100, the coefficient 1000, all powers 2. */
    private static void greatest() {
        JoinKeeper keeper = new JoinKeeper();
        for (int row = 0; row < 108; row++) {
            keeper.change(row / 36, row / 6 % 6, row % 6, row < 36 ? -100 : 100);
        }
        long squares = 55;
        long want = -1000L * 100 * 100 * 100 * squares * squares * squares * squares;
        CHECK.due("the greatest sum", totalOf(keeper, "RST:8*5*5*5*A*A*B*B*C*C*D*D"), want);
        Check.write(keeper, "RST:8*5*5*5*A*A*B*B*C*C*D*D/D");
        keeper.define(1);
        CHECK.due("its greatest group", keeper.answer(1, 5), want / squares * 25);
    }
}
