import java.util.Random;

/** Texts that are laws, or nearly so. */
final class RandomLaw {
    private static final String ALPHABET = "0123456789mwhfsk+-*/%<=>&|!();? ax[";

    private RandomLaw() {
    }

    static String text(Random random) {
        StringBuilder text = new StringBuilder();
        int lines = 1 + random.nextInt(4);
        for (int i = 0; i < lines; i++) {
            if (i > 0) text.append(';');
            level(random, text, 0, 5 + random.nextInt(6));
            if (random.nextBoolean()) {
                text.append('?');
                level(random, text, 0, 5 + random.nextInt(6));
            }
        }
        int spoils = random.nextInt(4) == 0 ? 1 + random.nextInt(3) : 0;
        for (int i = 0; i < spoils && text.length() > 0; i++) spoil(random, text);
        if (text.length() > 120) text.setLength(120);
        return text.toString();
    }

    private static void spoil(Random random, StringBuilder text) {
        int at = random.nextInt(text.length());
        int how = random.nextInt(4);
        if (how == 0) text.deleteCharAt(at);
        if (how == 1) text.setCharAt(at, ALPHABET.charAt(random.nextInt(ALPHABET.length())));
        if (how == 2) text.insert(at, ALPHABET.charAt(random.nextInt(ALPHABET.length())));
        if (how == 3) text.setLength(at);
    }

    private static void level(Random random, StringBuilder text, int level, int left) {
        if (level == 5) {
            operand(random, text, left);
            return;
        }
        String[] signs = {"|", "&", "<=>", "+-", "*/%"};
        level(random, text, level + 1, left - 1);
        for (int i = 0; i < (level == 2 ? 1 : 2) && random.nextInt(5) == 0; i++) {
            text.append(signs[level].charAt(random.nextInt(signs[level].length())));
            level(random, text, level + 1, left - 1);
        }
    }

    private static void operand(Random random, StringBuilder text, int left) {
        int kind = random.nextInt(8);
        if (kind < 2 && text.length() < 110) {
            text.append(kind == 0 ? '!' : '-');
            operand(random, text, left - 1);
        } else if (kind < 4 && left > -30 && text.length() < 100) {
            text.append('(');
            level(random, text, 0, left - 5);
            text.append(')');
        } else if (kind < 6) {
            text.append("mwhfsk".charAt(random.nextInt(6)));
        } else {
            text.append(random.nextInt(random.nextInt(40) == 0 ? 100000 : 12));
        }
    }
}
