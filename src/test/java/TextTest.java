/** Promises 4, 5 and 13: sign, clear and what state tells of the text. */
public final class TextTest {
    public static void main(String[] args) {
        Check check = new Check();
        JoinKeeper keeper = new JoinKeeper();
        for (int code : new int[] {32, 127, 0, -1, 128, 65 + 256, 65 + 65536, Integer.MIN_VALUE, Integer.MAX_VALUE}) {
            check.due("sign(" + code + ")", keeper.sign(code), -1);
            check.due("state(0)", keeper.state(0), 0);
        }
        for (int code = 33; code <= 126; code++) {
            check.due("sign(" + code + ")", keeper.sign(code), 1);
            check.due("state(0)", keeper.state(0), 1);
            check.due("clear()", keeper.clear(), 0);
            check.due("state(0)", keeper.state(0), 0);
        }
        check.due("clear() of an empty text", keeper.clear(), 0);

        JoinKeeper full = new JoinKeeper();
        String sum = "R:1+2+2+2+2+2+2+2+2+2+2+2+2+2+";
        for (int length = 1; length <= 30; length++) {
            check.due("sign " + length, full.sign(sum.charAt(length - 1)), length);
        }
        check.due("the 31st sign", full.sign('2'), -1);
        check.due("the length", full.state(0), 30);
        check.due("the text ends with '+'", full.fault(), 30);
        check.due("clear()", full.clear(), 0);
        check.due("the length", full.state(0), 0);
        check.due("an empty text is not whole", full.fault(), 0);
        check.due("sign after clear", full.sign('S'), 1);

        JoinKeeper defined = Check.with("R:5/A");
        check.due("define", defined.define(1), 1);
        check.due("the text stays", defined.state(0), 5);
        check.due("define once more", defined.define(2), 1);
        defined.clear();
        check.due("a question stays when the text goes", defined.question(1, 3), 0);
        check.end();
    }
}
