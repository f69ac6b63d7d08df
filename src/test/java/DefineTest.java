/** Promises 6, 8 and 12: define, drop and question. */
public final class DefineTest {
    private static final int BAD = JoinKeeper.BAD;
    private static final int LARGE = JoinKeeper.LARGE;
    private static final Check CHECK = new Check();

    public static void main(String[] args) {
        bad();
        terms();
        large();
        deepest();
        textsLeaveNothingBehind();
        questionsStayAfterBadAndLarge();
        whatOfAQuestion();
        drop();
        CHECK.end();
    }

    private static void bad() {
        for (String text : new String[] {"", "R", "R:", "RT:1", "R:C", "R:1+", "R:(1", "R:1)", "R:1?A", "R:1/", "R:1/AA",
                "R:---------1", "R:A*A*A*", "R:9*9*9*9+", "R:9*9*9*9/C"}) {
            CHECK.dueDefine(text, BAD);
        }
    }

    private static void terms() {
        CHECK.dueDefine("R:0", 0);
        CHECK.dueDefine("R:7", 1);
        CHECK.dueDefine("R:A", 1);
        CHECK.dueDefine("R:A-A", 0);
        CHECK.dueDefine("R:A+B+1", 3);
        CHECK.dueDefine("R:A*B-B*A+1", 1);
        CHECK.dueDefine("R:(A+B)*(A-B)", 2);
        CHECK.dueDefine("R:(A+B)*(A+B)", 3);
        CHECK.dueDefine("R:-(A-B)+A-B", 0);
        CHECK.dueDefine("R:2-3*A-(2-3*A)", 0);
        CHECK.dueDefine("RST:A*A*B*B*C*C*D*D", 1);
        CHECK.dueDefine("RST:A+B*C-D*D+1", 4);
    }

    private static void large() {
        CHECK.dueDefine("R:A*A", 1);
        CHECK.dueDefine("R:A*A*A", LARGE);
        CHECK.dueDefine("R:B*A*B*A*B", LARGE);
        CHECK.dueDefine("T:D*D*(D+1)", LARGE);
        CHECK.dueDefine("S:C*C*C-C*C*C", LARGE);
        CHECK.dueDefine("R:A*A*A*0", LARGE);
        CHECK.dueDefine("R:0*A*A*A", 0);
        CHECK.dueDefine("R:(A-A)*A*A*A*A*A*A*A", 0);
        CHECK.dueDefine("R:(A*A+B)*(A*A-B)", LARGE);
        CHECK.dueDefine("R:A*A*B*B", 1);

        CHECK.dueDefine("R:9*9*9+9*9*3+9*3+1", 1);
        CHECK.dueDefine("R:9*9*9+9*9*3+9*3+2", LARGE);
        CHECK.dueDefine("R:9*9*9+9*9*3+9*3+2-2", LARGE);
        CHECK.dueDefine("R:-9*9*9-9*9*3-9*3-1", 1);
        CHECK.dueDefine("R:-9*9*9-9*9*3-9*3-2", LARGE);
        CHECK.dueDefine("R:5*5*5*8*A", 1);
        CHECK.dueDefine("R:7*A*(9*8*2-1)", LARGE);
        CHECK.dueDefine("R:7*A*(9*8*2-1)*0", LARGE);
        CHECK.dueDefine("R:0*7*A*(9*8*2-1)", 0);
        CHECK.dueDefine("R:0*(9*9*9*9)", LARGE);
        CHECK.dueDefine("R:1-(9*9*9*9-9*9*9*9)", LARGE);
        CHECK.dueDefine("R:9*9*9-9*9*9+9*9*9", 1);
        CHECK.dueDefine("R:9*9*9+9*9*9-9*9*9", LARGE);
        CHECK.dueDefine("R:(9*9*9-B)*(A-1)", 4);
        CHECK.dueDefine("R:(5*5*5*8*A)*-1", 1);

        CHECK.dueDefine("RS:(A*A+A+1)*(B+1)*(C+1)", 12);
        CHECK.dueDefine("RST:(A*A+A+1)*(B+1)*(C+1)+D", LARGE);
        CHECK.dueDefine("RST:(A*A+A+1)*(B+1)*(C+1)-1+D", 12);
        CHECK.dueDefine("RST:D+(A*A+A+1)*(B+1)*(C+1)-1", LARGE);
        CHECK.dueDefine("RST:(A+1)*(B+1)*(C+1)*(D+1)", LARGE);
        CHECK.dueDefine("RST:(A+1)*(B+1)*(C+1)*(D+1)*0", LARGE);
        CHECK.dueDefine("RST:0*(A+1)*(B+1)*(C+1)*(D+1)", 0);
    }

    private static void deepest() {
        CHECK.dueDefine("R:--------A", 1);
        CHECK.dueDefine("R:((((((((A+B))))))))", 2);
        CHECK.dueDefine("R:-(-(-(-(A-1)-1)-1)-1)", 1);
        CHECK.dueDefine("R:-(-(-(-(A-2)-1)-1)-1)", 2);
        CHECK.dueDefine("R:-(-(-(-(A*A*A))))", LARGE);
        CHECK.dueDefine("R:0*-(9*9*9*9)", LARGE);
        CHECK.dueDefine("R:-------(A*A*A)", LARGE);
    }

    private static void textsLeaveNothingBehind() {
        JoinKeeper keeper = new JoinKeeper();
        String[] texts = {"R:1+A*B", "R:1", "RST:(((-", "S:B*C", "R:1?A=0?B=0/A", "T:D-C", "R:9*9*9*9", "R:A"};
        int[] want = {2, 1, BAD, 1, 1, 2, LARGE, 1};
        for (int i = 0; i < texts.length; i++) {
            Check.write(keeper, texts[i]);
            CHECK.due("define(0) of " + texts[i], keeper.define(0), want[i]);
        }
        CHECK.due("conditions", keeper.question(0, 4), 0);
        CHECK.due("group", keeper.question(0, 3), -2);
        keeper.change(0, 3, 3, 5);
        CHECK.due("total(0)", keeper.total(0), 15);
    }

    private static void questionsStayAfterBadAndLarge() {
        JoinKeeper keeper = Check.with("ST:B*D+2?C>1?D=3/B");
        keeper.change(1, 4, 2, 3);
        keeper.change(2, 2, 3, 5);
        CHECK.due("define(2)", keeper.define(2), 2);
        for (String text : new String[] {"R:A*A*A", "R:1?A=0/", "", "RST:9*9*9*9/D"}) {
            Check.write(keeper, text);
            CHECK.due("define(2) of " + text, keeper.define(2), text.contains("A*") || text.contains("9*") ? LARGE : BAD);
            CHECK.due("question(2, 0)", keeper.question(2, 0), 1);
            CHECK.due("question(2, 1)", keeper.question(2, 1), 2);
            CHECK.due("question(2, 2)", keeper.question(2, 2), 6);
            CHECK.due("question(2, 3)", keeper.question(2, 3), 1);
            CHECK.due("question(2, 4)", keeper.question(2, 4), 2);
            CHECK.due("answer(2, 4)", keeper.answer(2, 4), 15 * 14);
            CHECK.due("question(1, 0)", keeper.question(1, 0), 0);
            CHECK.due("define(1) of " + text, keeper.define(1), text.contains("A*") || text.contains("9*") ? LARGE : BAD);
            CHECK.due("question(1, 0)", keeper.question(1, 0), 0);
        }
        Check.write(keeper, "R:A");
        CHECK.due("define(2) in the place of one", keeper.define(2), 1);
        CHECK.due("question(2, 2)", keeper.question(2, 2), 1);
        CHECK.due("question(2, 3)", keeper.question(2, 3), -2);
        CHECK.due("question(2, 4)", keeper.question(2, 4), 0);
        CHECK.due("answer(2, 4)", keeper.answer(2, 4), 0);
    }

    private static void dueQuestion(String text, int chain, int group, int conditions) {
        JoinKeeper keeper = Check.with(text);
        keeper.define(3);
        CHECK.due(text + " question(3, 0)", keeper.question(3, 0), 1);
        CHECK.due(text + " question(3, 2)", keeper.question(3, 2), chain);
        CHECK.due(text + " question(3, 3)", keeper.question(3, 3), group);
        CHECK.due(text + " question(3, 4)", keeper.question(3, 4), conditions);
        CHECK.due(text + " question(3, 5)", keeper.question(3, 5), -1);
        CHECK.due(text + " question(3, -1)", keeper.question(3, -1), -1);
        CHECK.due(text + " question(2, 0)", keeper.question(2, 0), 0);
        CHECK.due(text + " question(2, 2)", keeper.question(2, 2), -1);
    }

    private static void whatOfAQuestion() {
        dueQuestion("R:1", 1, -2, 0);
        dueQuestion("S:1?B=1", 2, -2, 1);
        dueQuestion("T:1?C#1?C#1", 4, -2, 2);
        dueQuestion("RS:1/A", 3, 0, 0);
        dueQuestion("ST:1?D>1/B", 6, 1, 1);
        dueQuestion("RST:1?A<1?B<2?C<3?D<4/C", 7, 2, 4);
        dueQuestion("RST:1/D", 7, 3, 0);
        dueQuestion("R:1?A=1?A=2?A=3?A=4?A=5?A=6", 1, -2, 6);
    }

    private static void drop() {
        JoinKeeper keeper = Check.with("S:B/C");
        keeper.change(1, 2, 3, 4);
        for (int question = 0; question < 4; question++) {
            CHECK.due("define(" + question + ")", keeper.define(question), 1);
        }
        CHECK.due("drop(1)", keeper.drop(1), 0);
        CHECK.due("drop(1) again", keeper.drop(1), -1);
        CHECK.due("question(1, 0)", keeper.question(1, 0), 0);
        for (int what = 1; what <= 4; what++) {
            CHECK.due("question(1, " + what + ")", keeper.question(1, what), -1);
        }
        CHECK.due("answer(1, 3)", keeper.answer(1, 3), JoinKeeper.NONE);
        CHECK.due("total(1)", keeper.total(1), JoinKeeper.NONE);
        CHECK.due("answer(0, 3)", keeper.answer(0, 3), 8);
        CHECK.due("answer(2, 3)", keeper.answer(2, 3), 8);
        CHECK.due("the rows stay", keeper.count(1, 2, 3), 4);
        CHECK.due("the text stays", keeper.define(1), 1);
        CHECK.due("answer(1, 3)", keeper.answer(1, 3), 8);
        CHECK.due("drop(4)", keeper.drop(4), -1);
        CHECK.due("drop(-1)", keeper.drop(-1), -1);
    }
}
