/** Promises 2, 3, 11 and 13: change, back, count and what state tells of the rows. */
public final class RowsTest {
    private static final Check CHECK = new Check();

    public static void main(String[] args) {
        everyRowIsItsOwn();
        limits();
        changesAreTakenBackInTurn();
        refusedChangesAreNone();
        wholeLife();
        CHECK.end();
    }

    private static void everyRowIsItsOwn() {
        JoinKeeper keeper = new JoinKeeper();
        for (int row = 0; row < 108; row++) {
            CHECK.due("change of row " + row, keeper.change(row / 36, row / 6 % 6, row % 6, row - 54), 0);
        }
        for (int row = 0; row < 108; row++) {
            CHECK.due("count of row " + row, keeper.count(row / 36, row / 6 % 6, row % 6), row - 54);
        }
        CHECK.due("rows other than 0", keeper.state(2), 107);
        CHECK.due("changes", keeper.state(1), 108);
    }

    private static void limits() {
        JoinKeeper keeper = new JoinKeeper();
        CHECK.due("up to 101", keeper.change(1, 2, 3, 101), -1);
        CHECK.due("up to 100", keeper.change(1, 2, 3, 100), 0);
        CHECK.due("up by 1", keeper.change(1, 2, 3, 1), -1);
        CHECK.due("up by 0", keeper.change(1, 2, 3, 0), 0);
        CHECK.due("up by the greatest int", keeper.change(1, 2, 3, Integer.MAX_VALUE), -1);
        CHECK.due("down to -101", keeper.change(1, 2, 3, -201), -1);
        CHECK.due("count", keeper.count(1, 2, 3), 100);
        CHECK.due("down to -100", keeper.change(1, 2, 3, -200), 0);
        CHECK.due("count", keeper.count(1, 2, 3), -100);
        CHECK.due("down by 1", keeper.change(1, 2, 3, -1), -1);
        CHECK.due("down by the least int", keeper.change(1, 2, 3, Integer.MIN_VALUE), -1);
        CHECK.due("a new row by the least int", keeper.change(1, 0, 0, Integer.MIN_VALUE), -1);
        CHECK.due("a new row down to -101", keeper.change(1, 0, 0, -101), -1);
        CHECK.due("changes", keeper.state(1), 3);
        CHECK.due("rows other than 0", keeper.state(2), 1);
    }

    private static void changesAreTakenBackInTurn() {
        JoinKeeper keeper = new JoinKeeper();
        CHECK.due("back() without a change", keeper.back(), -1);
        keeper.change(0, 1, 2, 5);
        keeper.change(2, 1, 2, -7);
        keeper.change(0, 1, 2, 0);
        keeper.change(0, 1, 2, -5);
        CHECK.due("rows other than 0", keeper.state(2), 1);
        CHECK.due("back() of -5", keeper.back(), 3);
        CHECK.due("count", keeper.count(0, 1, 2), 5);
        CHECK.due("rows other than 0", keeper.state(2), 2);
        CHECK.due("back() of 0", keeper.back(), 2);
        CHECK.due("count", keeper.count(0, 1, 2), 5);
        CHECK.due("count", keeper.count(2, 1, 2), -7);
        keeper.change(1, 0, 0, 3);
        CHECK.due("changes", keeper.state(1), 3);
        CHECK.due("back() of the new one", keeper.back(), 2);
        CHECK.due("back() of -7", keeper.back(), 1);
        CHECK.due("count", keeper.count(2, 1, 2), 0);
        CHECK.due("back() of 5", keeper.back(), 0);
        CHECK.due("count", keeper.count(0, 1, 2), 0);
        CHECK.due("back() of none", keeper.back(), -1);
        CHECK.due("changes", keeper.state(1), 0);
        CHECK.due("rows other than 0", keeper.state(2), 0);
    }

    private static void refusedChangesAreNone() {
        JoinKeeper keeper = new JoinKeeper();
        keeper.change(0, 0, 0, 9);
        keeper.change(0, 0, 0, 92);
        keeper.change(0, 0, 6, 1);
        CHECK.due("back()", keeper.back(), 0);
        CHECK.due("count", keeper.count(0, 0, 0), 0);
    }

    /** An object has 512 calls, which may be changes all; later ones may answer anything, but do answer. */
    private static void wholeLife() {
        JoinKeeper changed = new JoinKeeper();
        for (int call = 0; call < 512; call++) {
            CHECK.due("change " + call, changed.change(2, 5, 5, call % 2 == 0 ? 100 : -100), 0);
        }
        for (int call = 0; call < 2000; call++) {
            changed.change(2, 5, 5, call % 2 == 0 ? 100 : -100);
        }

        JoinKeeper halved = new JoinKeeper();
        for (int call = 0; call < 256; call++) {
            CHECK.due("change " + call, halved.change(call % 3, call % 6, call % 5, call % 2 * 2 - 1), 0);
        }
        for (int left = 255; left >= 0; left--) {
            CHECK.due("back()", halved.back(), left);
        }
        CHECK.due("rows other than 0", halved.state(2), 0);
        for (int call = 0; call < 2000; call++) {
            halved.back();
        }
    }
}
