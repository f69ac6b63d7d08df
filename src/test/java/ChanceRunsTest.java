import java.util.Random;

/** All promises: runs of 512 calls by chance, each answer held against the model's. */
public final class ChanceRunsTest {
    private static final int RUNS = 1500;
    private static final int CALLS = 512;

    private static final Check CHECK = new Check();
    private static int defined;
    private static int large;

    private final Random random;
    private final Texts texts;
    private final JoinKeeper keeper = new JoinKeeper();
    private final Model model = new Model();
    private final String name;
    private int calls;

    private ChanceRunsTest(int seed) {
        random = new Random(seed);
        texts = new Texts(random);
        name = "run " + seed + " call ";
    }

    public static void main(String[] args) {
        for (int seed = 0; seed < RUNS; seed++) {
            new ChanceRunsTest(seed).run();
        }
        CHECK.holds("many texts are whole and not large", defined > RUNS);
        CHECK.holds("many texts are large", large > RUNS / 4);
        CHECK.end();
    }

    private void run() {
        while (calls < CALLS - 32) {
            switch (random.nextInt(12)) {
                case 0 -> write(texts.next());
                case 1, 2, 3, 4 -> change();
                case 5 -> due("back()", keeper.back(), model.back());
                case 6, 7, 8 -> ask();
                case 9 -> read();
                case 10 -> drop();
                default -> sign(random.nextInt(130));
            }
        }
    }

    private void due(String call, long got, long want) {
        calls++;
        CHECK.due(name + calls + ": " + call, got, want);
    }

    private void sign(int code) {
        due("sign(" + code + ")", keeper.sign(code), model.sign(code));
    }

    private void write(String text) {
        due("clear()", keeper.clear(), model.clear());
        for (char sign : text.toCharArray()) {
            sign(sign);
        }
        due("fault() of " + text, keeper.fault(), model.fault());
        int question = number(4);
        int want = model.define(question);
        due("define(" + question + ") of " + text, keeper.define(question), want);
        defined += want >= 0 ? 1 : 0;
        large += want == JoinKeeper.LARGE ? 1 : 0;
    }

    /** A number in 0 .. size - 1, and now and then one beside. */
    private int number(int size) {
        return random.nextInt(30) == 0 ? (random.nextBoolean() ? -1 : size) : random.nextInt(size);
    }

    private void change() {
        int relation = number(3);
        int x = number(6);
        int y = number(6);
        int by = random.nextInt(4) == 0 ? random.nextInt(401) - 200 : random.nextInt(21) - 10;
        due("change(" + relation + ", " + x + ", " + y + ", " + by + ")",
            keeper.change(relation, x, y, by), model.change(relation, x, y, by));
    }

    private void ask() {
        int question = number(4);
        int group = number(6);
        due("answer(" + question + ", " + group + ")", keeper.answer(question, group), model.answer(question, group));
        due("total(" + question + ")", keeper.total(question), model.total(question));
    }

    private void read() {
        int relation = number(3);
        int x = number(6);
        int y = number(6);
        int question = number(4);
        int what = number(5);
        due("count(" + relation + ", " + x + ", " + y + ")", keeper.count(relation, x, y), model.count(relation, x, y));
        due("question(" + question + ", " + what + ")", keeper.question(question, what), model.question(question, what));
        what = number(3);
        due("state(" + what + ")", keeper.state(what), model.state(what));
    }

    private void drop() {
        if (random.nextInt(3) == 0) {
            int question = number(4);
            due("drop(" + question + ")", keeper.drop(question), model.drop(question));
        }
    }
}
