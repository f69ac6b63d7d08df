import java.util.Random;

/** Texts by chance, always the same for the same seed: most are whole, some are broken. */
final class Texts {
    private static final String[] CHAINS = {"R", "S", "T", "RS", "ST", "RST"};
    private static final String[] COLUMNS = {"AB", "BC", "CD", "ABC", "BCD", "ABCD"};

    private final Random random;
    private String columns;

    Texts(Random random) {
        this.random = random;
    }

    String next() {
        String text = whole();
        for (int tries = 0; tries < 50 && text.length() > 30; tries++) {
            text = whole();
        }
        if (text.length() > 30) {
            text = text.substring(0, 30);
        }
        return random.nextInt(4) == 0 ? broken(text) : text;
    }

    private String whole() {
        int chain = random.nextInt(CHAINS.length);
        columns = COLUMNS[chain];
        StringBuilder text = new StringBuilder(CHAINS[chain]).append(':').append(sum(3));
        for (int conditions = random.nextInt(6) / 2; conditions > 0; conditions--) {
            text.append('?').append(column()).append("=#<>".charAt(random.nextInt(4))).append(random.nextInt(8));
        }
        if (random.nextBoolean()) {
            text.append('/').append(column());
        }
        return text.toString();
    }

    private char column() {
        return columns.charAt(random.nextInt(columns.length()));
    }

    private String sum(int depth) {
        StringBuilder sum = new StringBuilder(product(depth));
        while (random.nextInt(5) < 2) {
            sum.append(random.nextBoolean() ? '+' : '-').append(product(depth));
        }
        return sum.toString();
    }

    private String product(int depth) {
        StringBuilder product = new StringBuilder(factor(depth));
        while (random.nextInt(5) < 2) {
            product.append('*').append(factor(depth));
        }
        return product.toString();
    }

    private String factor(int depth) {
        int kind = random.nextInt(8);
        if (kind < 2 && depth > 0) {
            return "(" + sum(depth - 1) + ")";
        }
        if (kind == 2) {
            return "-" + factor(depth);
        }
        return kind < 5 ? String.valueOf((char) ('0' + random.nextInt(10))) : String.valueOf(column());
    }

    private String broken(String text) {
        StringBuilder broken = new StringBuilder(text);
        String signs = "RST:ABCD059+-*()?=#<>/!";
        int place = random.nextInt(broken.length());
        switch (random.nextInt(3)) {
            case 0 -> broken.setCharAt(place, signs.charAt(random.nextInt(signs.length())));
            case 1 -> broken.deleteCharAt(place);
            default -> broken.setLength(place);
        }
        return broken.toString();
    }
}
