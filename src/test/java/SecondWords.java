import java.util.Random;

/** Texts for the mixed runs: some by the document's rules, some with a byte that is not. */
final class SecondWords {
    private static final String[] KEYS = {"sale", "scrap", "back"};
    private static final String[] NAMES = {"kfsd", "kgd", "bsf"};
    private static final String SIGNS = "|&<=>+-*/";
    private static final String BYTES = "()!|&<=>+-*/ 0123456789kfsdgbz" + (char) 0 + (char) 233 + (char) 255 + "A_\t";

    private final Random random;
    private final int key;

    SecondWords(Random random) {
        this.random = random;
        this.key = random.nextInt(3);
    }

    String goodText() {
        return cut(KEYS[key] + " " + sum(3));
    }

    String anyText() {
        switch (random.nextInt(8)) {
            case 0: return cut(KEYS[key] + " " + nest());
            case 1: return cut(bytes(random.nextInt(30)));
            case 2: return cut(KEYS[key] + bytes(random.nextInt(12)));
            case 3: return cut(blanks(KEYS[key] + " " + sum(4)));
            case 4: return goodText();
            default: return cut(changed(blanks(KEYS[key] + " " + sum(3))));
        }
    }

    private static String cut(String text) {
        return text.substring(0, Math.min(text.length(), 84));
    }

    private String leaf() {
        if (random.nextBoolean()) {
            return String.valueOf(NAMES[key].charAt(random.nextInt(NAMES[key].length())));
        }
        int[] least = {1, 10, 100, 1000};
        return String.valueOf(random.nextInt(8) == 0 ? 0 : random.nextInt(10 * least[random.nextInt(4)]));
    }

    /** Any signs between pieces are a text, but for two that compare. */
    private String sum(int deep) {
        StringBuilder row = new StringBuilder(piece(deep));
        boolean compares = false;
        for (int i = random.nextInt(4); i > 0; i--) {
            char sign = SIGNS.charAt(random.nextInt(SIGNS.length()));
            boolean isCompare = "<=>".indexOf(sign) >= 0;
            if (isCompare && compares) {
                sign = '+';
            }
            compares = isCompare || compares && "|&".indexOf(sign) < 0;
            row.append(sign).append(piece(deep));
        }
        return row.toString();
    }

    private String piece(int deep) {
        int way = deep == 0 ? 0 : random.nextInt(5);
        if (way == 4) {
            return "(" + sum(deep - 1) + ")";
        }
        return way == 3 ? "!" + piece(deep - 1) : leaf();
    }

    /** About as deep as it may go, of either sign or both. */
    private String nest() {
        StringBuilder row = new StringBuilder();
        int brackets = 0;
        int most = 5 + random.nextInt(14);
        for (int i = 0; i < most; i++) {
            if (random.nextBoolean()) {
                row.append('!');
            } else {
                row.append('(');
                brackets++;
            }
        }
        row.append(leaf());
        while (brackets > 0) {
            row.append(random.nextInt(4) == 0 ? "+!1" : "").append(')');
            brackets--;
        }
        return row.toString();
    }

    private String bytes(int many) {
        StringBuilder row = new StringBuilder();
        for (int i = 0; i < many; i++) {
            row.append(BYTES.charAt(random.nextInt(BYTES.length())));
        }
        return row.toString();
    }

    private String blanks(String text) {
        StringBuilder row = new StringBuilder();
        for (int i = 0; i < text.length(); i++) {
            boolean within = i > 0 && Character.isLetterOrDigit(text.charAt(i)) && Character.isLetterOrDigit(text.charAt(i - 1));
            if (!within && random.nextInt(4) == 0) {
                row.append(random.nextInt(4) == 0 ? "   " : " ");
            }
            row.append(text.charAt(i));
        }
        return row.append(random.nextInt(4) == 0 ? " " : "").toString();
    }

    private String changed(String text) {
        int place = random.nextInt(random.nextInt(4) == 0 ? 4 : text.length());
        String ahead = text.substring(0, place);
        String one = bytes(1);
        switch (random.nextInt(4)) {
            case 0: return ahead + text.substring(place + 1);
            case 1: return ahead + one + text.substring(place);
            case 2: return ahead;
            default: return ahead + one + text.substring(place + 1);
        }
    }
}
