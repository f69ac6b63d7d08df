/** The boundary cases that promises 2, 3 and 11 name, a test for each. */
public final class EdgesOfRowsTest {
    private static final int REFUSED = JoinKeeper.REFUSED;
    private static final int[] NO_VALUES = {-1, 6, 7, 36, -6, 256, Integer.MIN_VALUE, Integer.MAX_VALUE};
    private static final int[] NO_RELATIONS = {-1, 3, 4, 7, -3, 256, Integer.MIN_VALUE, Integer.MAX_VALUE};

    public static void main(String[] args) {
        Edges change = new Edges("promise 2, change");
        change.test("relation 0 R, 1 S, 2 T: no other", EdgesOfRowsTest::changeOfNoRelation);
        change.test("x and y, 0 .. 5: the first and the last value", EdgesOfRowsTest::changeOfCorners);
        change.test("x, 0 .. 5: no other value", EdgesOfRowsTest::changeOfNoFirstValue);
        change.test("y, 0 .. 5: no other value", EdgesOfRowsTest::changeOfNoSecondValue);
        change.test("the count would be above 100", EdgesOfRowsTest::aboveMost);
        change.test("the count would be below -100", EdgesOfRowsTest::belowLeast);
        change.test("the count may be 100 and -100", EdgesOfRowsTest::mostAndLeast);
        change.test("'by' that wraps an int around", EdgesOfRowsTest::wrapAround);
        change.test("by 0 as well; it is a change", EdgesOfRowsTest::byNothing);
        change.test("by 0 at 100 and at -100", EdgesOfRowsTest::byNothingAtTheLimits);
        change.test("a refused change is no change", EdgesOfRowsTest::refusedIsNoChange);
        change.test("all 512 calls may be changes", EdgesOfRowsTest::allCallsAreChanges);

        Edges back = new Edges("promise 3, back");
        back.test("there is none: on a new object", EdgesOfRowsTest::backOnNewObject);
        back.test("there is none: all were taken back", EdgesOfRowsTest::backOfAll);
        back.test("there is none: the only one was refused", EdgesOfRowsTest::backOfRefused);
        back.test("the latest that was not taken back yet", EdgesOfRowsTest::backOfLatest);
        back.test("its row's count falls by as much: from 100 to -100 and up again", EdgesOfRowsTest::backAcrossTheRange);
        back.test("a change by 0 is taken back", EdgesOfRowsTest::backOfNothing);
        back.test("how many are left, from 254 to 0", EdgesOfRowsTest::backOfHalfALife);

        Edges count = new Edges("promise 11, count");
        count.test("0 at first, for each row", EdgesOfRowsTest::countAtFirst);
        count.test("from -100 to 100", EdgesOfRowsTest::countAtTheLimits);
        count.test("a row of no relation: NONE", EdgesOfRowsTest::countOfNoRelation);
        count.test("a row of no value: NONE", EdgesOfRowsTest::countOfNoValue);
        Edges.end(change, back, count);
    }

    /** A new object of which every part is in use; it has had fewer than 30 calls. */
    private static JoinKeeper used() {
        JoinKeeper keeper = Check.with("RS:A+C/B");
        keeper.define(0);
        keeper.change(0, 0, 0, 3);
        keeper.change(0, 5, 5, -4);
        keeper.change(1, 0, 5, 5);
        keeper.change(2, 5, 0, 6);
        return keeper;
    }

    private static void changeOfNoRelation(Check check) {
        for (int relation : NO_RELATIONS) {
            check.dueNoChange("change(" + relation + ", 0, 0, 1)", used(), k -> k.change(relation, 0, 0, 1), REFUSED);
        }
    }

    private static void changeOfCorners(Check check) {
        JoinKeeper keeper = new JoinKeeper();
        for (int corner = 0; corner < 12; corner++) {
            check.due("change", keeper.change(corner / 4, corner / 2 % 2 * 5, corner % 2 * 5, corner + 1), 0);
        }
        for (int corner = 0; corner < 12; corner++) {
            check.due("count", keeper.count(corner / 4, corner / 2 % 2 * 5, corner % 2 * 5), corner + 1);
        }
        check.due("rows with counts other than 0", keeper.state(2), 12);
    }

    private static void changeOfNoFirstValue(Check check) {
        for (int x : NO_VALUES) {
            check.dueNoChange("change(0, " + x + ", 0, 1)", used(), k -> k.change(0, x, 0, 1), REFUSED);
            check.dueNoChange("change(2, " + x + ", 5, 0)", used(), k -> k.change(2, x, 5, 0), REFUSED);
        }
    }

    private static void changeOfNoSecondValue(Check check) {
        for (int y : NO_VALUES) {
            check.dueNoChange("change(0, 0, " + y + ", 1)", used(), k -> k.change(0, 0, y, 1), REFUSED);
            check.dueNoChange("change(2, 5, " + y + ", 0)", used(), k -> k.change(2, 5, y, 0), REFUSED);
        }
    }

    private static void aboveMost(Check check) {
        check.dueNoChange("0 up by 101", used(), k -> k.change(2, 3, 4, 101), REFUSED);
        check.dueNoChange("3 up by 98", used(), k -> k.change(0, 0, 0, 98), REFUSED);
        check.dueNoChange("-4 up by 105", used(), k -> k.change(0, 5, 5, 105), REFUSED);
        JoinKeeper full = used();
        full.change(0, 0, 0, 97);
        check.dueNoChange("100 up by 1", full, k -> k.change(0, 0, 0, 1), REFUSED);
    }

    private static void belowLeast(Check check) {
        check.dueNoChange("0 down by 101", used(), k -> k.change(2, 3, 4, -101), REFUSED);
        check.dueNoChange("3 down by 104", used(), k -> k.change(0, 0, 0, -104), REFUSED);
        check.dueNoChange("-4 down by 97", used(), k -> k.change(0, 5, 5, -97), REFUSED);
        JoinKeeper full = used();
        full.change(0, 5, 5, -96);
        check.dueNoChange("-100 down by 1", full, k -> k.change(0, 5, 5, -1), REFUSED);
    }

    private static void mostAndLeast(Check check) {
        JoinKeeper keeper = new JoinKeeper();
        check.due("0 up by 100", keeper.change(0, 1, 1, 100), 0);
        check.due("0 down by 100", keeper.change(1, 1, 1, -100), 0);
        check.due("100 down by 200", keeper.change(0, 1, 1, -200), 0);
        check.due("-100 up by 200", keeper.change(1, 1, 1, 200), 0);
        check.due("count", keeper.count(0, 1, 1), -100);
        check.due("count", keeper.count(1, 1, 1), 100);
    }

    private static void wrapAround(Check check) {
        int[] starts = {100, 1, 0, -1, -100};
        int[] wide = {Integer.MAX_VALUE, Integer.MIN_VALUE, Integer.MAX_VALUE - 100, Integer.MIN_VALUE + 100, 1 << 16, -256};
        for (int start : starts) {
            for (int by : wide) {
                JoinKeeper keeper = used();
                keeper.change(1, 2, 2, start);
                check.dueNoChange(start + " up by " + by, keeper, k -> k.change(1, 2, 2, by), REFUSED);
            }
        }
    }

    private static void byNothing(Check check) {
        JoinKeeper keeper = new JoinKeeper();
        check.due("change by 0", keeper.change(2, 2, 2, 0), 0);
        check.due("it is a change", keeper.state(1), 1);
        check.due("no row has a count other than 0", keeper.state(2), 0);
        check.due("count", keeper.count(2, 2, 2), 0);
    }

    private static void byNothingAtTheLimits(Check check) {
        JoinKeeper keeper = new JoinKeeper();
        keeper.change(0, 4, 5, 100);
        keeper.change(2, 4, 5, -100);
        check.due("100 up by 0", keeper.change(0, 4, 5, 0), 0);
        check.due("-100 up by 0", keeper.change(2, 4, 5, 0), 0);
        check.due("count", keeper.count(0, 4, 5), 100);
        check.due("count", keeper.count(2, 4, 5), -100);
        check.due("changes", keeper.state(1), 4);
    }

    private static void refusedIsNoChange(Check check) {
        JoinKeeper keeper = new JoinKeeper();
        keeper.change(0, 0, 0, 60);
        check.due("60 up by 41", keeper.change(0, 0, 0, 41), REFUSED);
        check.due("row 6", keeper.change(0, 6, 0, 1), REFUSED);
        check.due("changes", keeper.state(1), 1);
        check.due("back takes back the 60", keeper.back(), 0);
        check.due("count", keeper.count(0, 0, 0), 0);
    }

    private static void allCallsAreChanges(Check check) {
        JoinKeeper keeper = new JoinKeeper();
        for (int call = 1; call <= 512; call++) {
            check.due("change " + call, keeper.change(1, 3, 3, call % 2 == 1 ? 100 : -100), 0);
        }
    }

    private static void backOnNewObject(Check check) {
        check.dueNoChange("back()", new JoinKeeper(), k -> k.back(), REFUSED);
    }

    private static void backOfAll(Check check) {
        JoinKeeper keeper = new JoinKeeper();
        keeper.change(1, 1, 1, 1);
        keeper.change(2, 2, 2, 2);
        check.due("back() of the second", keeper.back(), 1);
        check.due("back() of the first", keeper.back(), 0);
        check.dueNoChange("back() of none", keeper, k -> k.back(), REFUSED);
        check.due("back() of none once more", keeper.back(), REFUSED);
        check.due("a new change", keeper.change(0, 0, 0, 5), 0);
        check.due("back() of the new one", keeper.back(), 0);
    }

    private static void backOfRefused(Check check) {
        JoinKeeper keeper = new JoinKeeper();
        keeper.change(1, 1, 1, 101);
        keeper.change(3, 1, 1, 1);
        check.dueNoChange("back()", keeper, k -> k.back(), REFUSED);
    }

    private static void backOfLatest(Check check) {
        JoinKeeper keeper = new JoinKeeper();
        keeper.change(0, 1, 1, 1);
        keeper.change(1, 1, 1, 2);
        check.due("back() of 2", keeper.back(), 1);
        keeper.change(2, 1, 1, 3);
        check.due("back() of 3", keeper.back(), 1);
        check.due("count of T", keeper.count(2, 1, 1), 0);
        check.due("count of S", keeper.count(1, 1, 1), 0);
        check.due("count of R", keeper.count(0, 1, 1), 1);
        check.due("back() of 1, not of 2 again", keeper.back(), 0);
        check.due("count of S", keeper.count(1, 1, 1), 0);
        check.due("count of R", keeper.count(0, 1, 1), 0);
    }

    private static void backAcrossTheRange(Check check) {
        JoinKeeper keeper = new JoinKeeper();
        keeper.change(1, 5, 0, -100);
        keeper.change(1, 5, 0, 200);
        keeper.change(1, 5, 0, -200);
        check.due("count", keeper.count(1, 5, 0), -100);
        check.due("back() of -200", keeper.back(), 2);
        check.due("count", keeper.count(1, 5, 0), 100);
        check.due("back() of 200", keeper.back(), 1);
        check.due("count", keeper.count(1, 5, 0), -100);
        check.due("back() of -100", keeper.back(), 0);
        check.due("count", keeper.count(1, 5, 0), 0);
    }

    private static void backOfNothing(Check check) {
        JoinKeeper keeper = new JoinKeeper();
        keeper.change(0, 2, 3, 7);
        keeper.change(0, 2, 3, 0);
        check.due("back() of 0", keeper.back(), 1);
        check.due("count", keeper.count(0, 2, 3), 7);
        check.due("back() of 7", keeper.back(), 0);
        check.due("count", keeper.count(0, 2, 3), 0);
    }

    private static void backOfHalfALife(Check check) {
        JoinKeeper keeper = new JoinKeeper();
        for (int made = 0; made < 255; made++) {
            keeper.change(made % 3, made % 6, made / 6 % 6, made % 7 - 3);
        }
        for (int left = 254; left >= 0; left--) {
            check.due("back()", keeper.back(), left);
        }
        check.due("rows with counts other than 0", keeper.state(2), 0);
        check.due("the 512th call", keeper.back(), REFUSED);
    }

    private static void countAtFirst(Check check) {
        JoinKeeper keeper = new JoinKeeper();
        for (int row = 0; row < 108; row++) {
            check.due("count of row " + row, keeper.count(row / 36, row / 6 % 6, row % 6), 0);
        }
    }

    private static void countAtTheLimits(Check check) {
        JoinKeeper keeper = new JoinKeeper();
        for (int relation = 0; relation < 3; relation++) {
            keeper.change(relation, 0, 5, 100);
            keeper.change(relation, 5, 0, -100);
            check.due("count", keeper.count(relation, 0, 5), 100);
            check.due("count", keeper.count(relation, 5, 0), -100);
        }
    }

    private static void countOfNoRelation(Check check) {
        for (int relation : NO_RELATIONS) {
            check.dueNoChange("count(" + relation + ", 0, 0)", used(), k -> k.count(relation, 0, 0), JoinKeeper.NONE);
        }
    }

    private static void countOfNoValue(Check check) {
        for (int value : NO_VALUES) {
            check.dueNoChange("count(0, " + value + ", 0)", used(), k -> k.count(0, value, 0), JoinKeeper.NONE);
            check.dueNoChange("count(0, 0, " + value + ")", used(), k -> k.count(0, 0, value), JoinKeeper.NONE);
            check.dueNoChange("count(2, 5, " + value + ")", used(), k -> k.count(2, 5, value), JoinKeeper.NONE);
        }
    }
}
