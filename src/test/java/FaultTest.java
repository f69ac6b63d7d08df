import java.util.Random;

/** Promise 7: the place of the first sign that can't stand. */
public final class FaultTest {
    private static final Check CHECK = new Check();

    public static void main(String[] args) {
        chains();
        columns();
        expressions();
        open();
        conditionsAndGroups();
        notWhole();
        everySignAtEveryPlace();
        CHECK.end();
    }

    private static void whole(String... texts) {
        for (String text : texts) {
            CHECK.dueFault(text, -2);
        }
    }

    private static void faultAtLast(String... texts) {
        for (String text : texts) {
            CHECK.dueFaultAtLast(text);
        }
    }

    private static void chains() {
        whole("R:1", "S:1", "T:1", "RS:1", "ST:1", "RST:1");
        faultAtLast("A", ":", "1", "r", "Q", "U", "RR", "RT", "SR", "SS", "TR", "TS", "TT", "RSR", "RSS", "STR", "STT",
            "RSTR", "R1", "RSTA", "R::");
        CHECK.dueFault("", 0);
        CHECK.dueFault("R", 1);
        CHECK.dueFault("RS", 2);
        CHECK.dueFault("RST", 3);
        CHECK.dueFault("RST:", 4);
        CHECK.dueFault("RT:A", 1);
    }

    private static void columns() {
        String[] chains = {"R", "S", "T", "RS", "ST", "RST"};
        String[] columns = {"AB", "BC", "CD", "ABC", "BCD", "ABCD"};
        for (int i = 0; i < chains.length; i++) {
            for (String letter : new String[] {"A", "B", "C", "D", "E", "a", "@"}) {
                boolean can = columns[i].contains(letter);
                for (String start : new String[] {":", ":1*", ":1?", ":1/", ":-(", ":2?" + columns[i].charAt(0) + "=0?"}) {
                    String text = chains[i] + start + letter;
                    int whole = start.endsWith("?") || start.endsWith("(") ? text.length() : -2;
                    CHECK.dueFault(text, can ? whole : text.length() - 1);
                }
            }
        }
    }

    private static void expressions() {
        whole("R:0", "R:9", "R:A+B", "R:A-B", "R:A--B", "R:A+-B", "R:A*-B", "R:-A", "R:--A", "R:(A)", "R:((A+1)*2)",
            "R:-(A)*-(B)", "R:(-A)", "R:A-(B-1)-2");
        faultAtLast("R:+", "R:*", "R:)", "R:?", "R:/", "R::", "R:=", "R:!", "R:12", "R:1A", "R:AB", "R:A(", "R:(A)(",
            "R:(A)1", "R:1++", "R:1-+", "R:1-*", "R:1**", "R:1*+", "R:()", "R:(+", "R:-)", "R:-+", "R:(A?", "R:(A/",
            "R:(1+)", "R:1)", "R:(1))", "R:-1)", "R:1:", "R:1=");
        CHECK.dueFault("R:1.2", 3);
    }

    private static void open() {
        whole("R:--------1", "R:((((((((1))))))))", "R:-(-(-(-(1))))", "R:(-(-(-(-1))))",
            "R:--------1*--------1", "R:--------1---------1", "R:-(1)-(1)-(1)-(1)-(1)-(1)-(1)",
            "R:(------(1)-------1)");
        faultAtLast("R:---------", "R:(((((((((", "R:--------(", "R:((((((((-", "R:-(-(-(-((", "R:-(-(-(-(-",
            "R:--------1*---------", "R:--------1----------", "R:((((((((1)+((", "R:(-------1-------(-",
            "R:((((((((1*-", "R:((((((((1--");
        CHECK.dueFault("R:((((((((1-1", 13);
        CHECK.dueFault("R:--------1*--------", 20);
    }

    private static void conditionsAndGroups() {
        whole("R:1?A=0", "R:1?A#9", "R:1?A<5?B>3", "R:1?A<5/B", "R:1/A", "R:1?A=1?A=1?A=1?A=1?A=1?A=1/B");
        faultAtLast("R:1?1", "R:1??", "R:1?A!", "R:1?AA", "R:1?A:", "R:1?A1", "R:1?A==", "R:1?A<=", "R:1?A=A", "R:1?A=-",
            "R:1?A=12", "R:1?A=1+", "R:1?A=1*", "R:1?A=1)", "R:1/1", "R:1//", "R:1/A/", "R:1/A?", "R:1/A+", "R:1/AB",
            "R:1/A1", "R:1?A=1/B?");
    }

    private static void notWhole() {
        for (String text : new String[] {"R:1+", "R:1-", "R:1*", "R:-", "R:(", "R:(1", "R:(1+1", "R:((1)", "R:1?", "R:1?A",
                "R:1?A=", "R:1/", "R:1?A=1?", "R:1?A=1/", "R:1+1+1+1+1+1+1+1+1+1+1+1+1+1+"}) {
            CHECK.dueFault(text, text.length());
        }
    }

    /** Walks along texts that can go on, and holds every sign at every place against the model. */
    private static void everySignAtEveryPlace() {
        for (int seed = 0; seed < 40; seed++) {
            Random random = new Random(seed);
            String text = "";
            while (text.length() < 30) {
                String standing = signsThatStand(text);
                if (standing.isEmpty()) {
                    break;
                }
                text += standing.charAt(random.nextInt(standing.length()));
            }
        }
    }

    private static String signsThatStand(String text) {
        StringBuilder standing = new StringBuilder();
        for (char sign = 33; sign < 127; sign++) {
            boolean can = Model.ModelText.canBegin(text + sign);
            boolean whole = Model.ModelText.parse(text + sign) != null;
            CHECK.dueFault(text + sign, whole ? -2 : can ? text.length() + 1 : text.length());
            if (can) {
                standing.append(sign);
            }
        }
        return standing.toString();
    }
}
