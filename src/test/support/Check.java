import java.util.function.ToLongFunction;

/** Counts the answers that are not the ones that are due, and prints them. */
final class Check {
    private int wrong;

    void due(String call, long got, long want) {
        if (got != want) {
            wrong++;
            System.out.println(call + " answered " + got + ", due is " + want);
        }
    }

    void holds(String what, boolean held) {
        if (!held) {
            wrong++;
            System.out.println("does not hold: " + what);
        }
    }

    boolean isClean() {
        return wrong == 0;
    }

    /** Ends the test, with exit code 1 if an answer was wrong. */
    void end() {
        if (wrong != 0) {
            System.out.println(wrong + " answers are not as due");
            System.exit(1);
        }
    }

    /** Gives the keeper this text in the place of the one it had. */
    static void write(JoinKeeper keeper, String text) {
        keeper.clear();
        for (int i = 0; i < text.length(); i++) {
            keeper.sign(text.charAt(i));
        }
    }

    static JoinKeeper with(String text) {
        JoinKeeper keeper = new JoinKeeper();
        write(keeper, text);
        return keeper;
    }

    /** The due answer of define(0) for a text on a new object. */
    void dueDefine(String text, int want) {
        due("define of " + text, with(text).define(0), want);
    }

    void dueFault(String text, int want) {
        due("fault of " + text, with(text).fault(), want);
    }

    /** A text whose signs can all stand but the last. */
    void dueFaultAtLast(String text) {
        dueFault(text, text.length() - 1);
    }

    /** The call answers what is due and leaves all that can be read as it was: some 320 calls. */
    void dueNoChange(String call, JoinKeeper keeper, ToLongFunction<JoinKeeper> called, long want) {
        String before = readAll(keeper);
        due(call, called.applyAsLong(keeper), want);
        holds(call + " changes nothing", readAll(keeper).equals(before));
    }

    /** All that can be read of the keeper, to see that a call changed nothing. */
    static String readAll(JoinKeeper keeper) {
        StringBuilder all = new StringBuilder();
        for (int what = 0; what < 3; what++) {
            all.append(keeper.state(what)).append(' ');
        }
        all.append(keeper.fault()).append('\n');
        for (int relation = 0; relation < 3; relation++) {
            for (int row = 0; row < 36; row++) {
                all.append(keeper.count(relation, row / 6, row % 6)).append(' ');
            }
        }
        for (int question = 0; question < 4; question++) {
            all.append('\n');
            for (int what = 0; what < 5; what++) {
                all.append(keeper.question(question, what)).append(' ');
            }
            for (int group = 0; group < 6; group++) {
                all.append(keeper.answer(question, group)).append(' ');
            }
            all.append(keeper.total(question));
        }
        return all.toString();
    }
}
