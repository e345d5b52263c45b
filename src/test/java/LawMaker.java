import java.util.Random;

/** Makes texts of laws: sound ones, and ones that are nearly so. */
final class LawMaker {
    private static final String LETTERS = "nfcuvpgxkwiqht";
    private static final String SIGNS = "bsy()[]!&|<>=+-*/%;0123456789nfcuvpgxkwiqhtaz ";

    private final Random random;
    private final StringBuilder out = new StringBuilder();

    LawMaker(Random random) {
        this.random = random;
    }

    String sound() {
        for (int tries = 0; tries < 50; tries++) {
            out.setLength(0);
            int clauses = 1 + random.nextInt(random.nextInt(8) == 0 ? 13 : 4);
            for (int i = 0; i < clauses; i++) {
                out.append(i == 0 ? "" : ";");
                clause();
            }
            if (out.length() <= 160) {
                return out.toString();
            }
        }
        return "b(c=1)";
    }

    String spoilt() {
        StringBuilder text = new StringBuilder(sound());
        int changes = 1 + random.nextInt(2);
        for (int i = 0; i < changes; i++) {
            int place = random.nextInt(text.length());
            char sign = random.nextInt(30) == 0 ? (char) random.nextInt(256) : SIGNS.charAt(random.nextInt(SIGNS.length()));
            switch (random.nextInt(4)) {
                case 0 -> text.setCharAt(place, sign);
                case 1 -> text.insert(place, sign);
                case 2 -> text.setLength(place + 1);
                default -> text.deleteCharAt(place);
            }
            if (text.length() == 0) {
                text.append(sign);
            }
        }
        text.setLength(Math.min(160, text.length()));
        return text.toString();
    }

    private void clause() {
        switch (random.nextInt(5)) {
            case 0 -> out.append('s');
            case 1 -> {
                out.append('y');
                sum(0);
            }
            default -> out.append('b');
        }
        out.append('(');
        condition(1);
        out.append(')');
    }

    private void condition(int open) {
        part(open);
        while (random.nextInt(4) == 0) {
            out.append('|');
            part(open);
        }
    }

    private void part(int open) {
        piece(open);
        while (random.nextInt(4) == 0) {
            out.append('&');
            piece(open);
        }
    }

    private void piece(int open) {
        int most = random.nextInt(20) == 0 ? 7 : 6;
        int way = random.nextInt(6);
        if (way == 0 && open < most) {
            out.append('!');
            piece(open + 1);
        } else if (way == 1 && open < most) {
            out.append('(');
            condition(open + 1);
            out.append(')');
        } else if (way < 4) {
            out.append(LETTERS.charAt(random.nextInt(LETTERS.length()))).append("<>=".charAt(random.nextInt(3)))
                    .append(random.nextInt(2));
        } else {
            sum(open);
            out.append("<>=".charAt(random.nextInt(3)));
            sum(open);
        }
    }

    private void sum(int open) {
        product(open);
        while (random.nextInt(3) == 0) {
            out.append(random.nextBoolean() ? '+' : '-');
            product(open);
        }
    }

    private void product(int open) {
        factor(open);
        while (random.nextInt(4) == 0) {
            out.append("*/%".charAt(random.nextInt(3)));
            factor(open);
        }
    }

    private void factor(int open) {
        int way = random.nextInt(8);
        if (way == 0 && open < 6) {
            out.append('[');
            sum(open + 1);
            out.append(']');
        } else if (way < 3) {
            out.append(random.nextInt(4) == 0 ? random.nextInt(100000) : random.nextInt(20));
        } else {
            out.append(LETTERS.charAt(random.nextInt(LETTERS.length())));
        }
    }
}
