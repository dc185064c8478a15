import java.util.ArrayList;
import java.util.List;

/** A TEXT of the second bench: the document's rules, each one method that goes down to the next. */
final class SecondText {
    static final List<String> KEYS = List.of("sale", "scrap", "back");
    private static final List<String> NAMES = List.of("kfsd", "kgd", "bsf");

    private interface Law {
        int of(SecondPhone p, int day);
    }

    private interface Joined {
        int of(int a, int b);
    }

    private record Word(int start, String letters, boolean isWord, boolean touches) {
    }

    private static final class Fault extends RuntimeException {
        private static final long serialVersionUID = 1L;
        final int place;

        Fault(int place) {
            this.place = place;
        }
    }

    private final List<Word> words = new ArrayList<>();
    private int at = 0;
    String key = "";
    int numbersAndNames = 0;
    private Law law = null;

    SecondText(List<Integer> tape) {
        int place = 0;
        while (place < tape.size()) {
            int end = place + 1;
            int sort = sortOf(tape.get(place));
            while (sort < 2 && end < tape.size() && sortOf(tape.get(end)) == sort) {
                end++;
            }
            StringBuilder letters = new StringBuilder();
            for (int i = place; i < end; i++) {
                letters.append((char) (int) tape.get(i));
            }
            boolean touches = place > 0 && sortOf(tape.get(place - 1)) < 2;
            if (tape.get(place) != 32) {
                words.add(new Word(place, letters.toString(), sort < 2, touches));
            }
            place = end;
        }
        words.add(new Word(tape.size(), "", false, false));
    }

    /** 0 a letter, 1 a digit, 2 any other byte. */
    private static int sortOf(int one) {
        return "abcdefghijklmnopqrstuvwxyz".indexOf(one) >= 0 ? 0 : "0123456789".indexOf(one) >= 0 ? 1 : 2;
    }

    /** The place of the FAULT; -1: there is none. */
    int read() {
        try {
            key = here().letters;
            if (!KEYS.contains(key)) {
                throw new Fault(here().start);
            }
            at++;
            law = or(0, 0);
            if (at < words.size() - 1) {
                throw new Fault(here().start);
            }
            return -1;
        } catch (Fault fault) {
            return fault.place;
        }
    }

    int gives(SecondPhone p, int day) {
        return law.of(p, day);
    }

    private Word here() {
        return words.get(at);
    }

    private boolean takes(String sign) {
        if (!here().letters.equals(sign)) {
            return false;
        }
        at++;
        return true;
    }

    private static Law join(Law left, Law right, Joined joined) {
        return (p, day) -> joined.of(left.of(p, day), right.of(p, day));
    }

    private Law or(int brackets, int nots) {
        Law law = and(brackets, nots);
        while (takes("|")) {
            law = join(law, and(brackets, nots), (a, b) -> a != 0 || b != 0 ? 1 : 0);
        }
        return law;
    }

    private Law and(int brackets, int nots) {
        Law law = test(brackets, nots);
        while (takes("&")) {
            law = join(law, test(brackets, nots), (a, b) -> a != 0 && b != 0 ? 1 : 0);
        }
        return law;
    }

    private Law test(int brackets, int nots) {
        Law law = sum(brackets, nots);
        if (takes("<")) {
            return join(law, sum(brackets, nots), (a, b) -> a < b ? 1 : 0);
        }
        if (takes("=")) {
            return join(law, sum(brackets, nots), (a, b) -> a == b ? 1 : 0);
        }
        if (takes(">")) {
            return join(law, sum(brackets, nots), (a, b) -> a > b ? 1 : 0);
        }
        return law;
    }

    private Law sum(int brackets, int nots) {
        Law law = term(brackets, nots);
        for (;;) {
            if (takes("+")) {
                law = join(law, term(brackets, nots), (a, b) -> a + b);
            } else if (takes("-")) {
                law = join(law, term(brackets, nots), (a, b) -> a - b);
            } else {
                return law;
            }
        }
    }

    private Law term(int brackets, int nots) {
        Law law = piece(brackets, nots);
        for (;;) {
            if (takes("*")) {
                law = join(law, piece(brackets, nots), (a, b) -> a * b);
            } else if (takes("/")) {
                law = join(law, piece(brackets, nots), (a, b) -> b == 0 ? 0 : a / b);
            } else {
                return law;
            }
        }
    }

    private Law piece(int brackets, int nots) {
        Word word = here();
        if (word.isWord && word.touches) {
            throw new Fault(word.start);
        }
        if (brackets < 8 && takes("(")) {
            Law law = or(brackets + 1, nots);
            if (!takes(")")) {
                throw new Fault(here().start);
            }
            return law;
        }
        if (nots < 8 && takes("!")) {
            Law law = piece(brackets, nots + 1);
            return (p, day) -> law.of(p, day) == 0 ? 1 : 0;
        }
        return numberOrName(word);
    }

    private Law numberOrName(Word word) {
        String letters = word.letters;
        boolean isName = letters.length() == 1 && NAMES.get(KEYS.indexOf(key)).contains(letters);
        if (!isName && !letters.matches("[0-9]{1,4}")) {
            throw new Fault(word.start);
        }
        at++;
        numbersAndNames++;
        if (!isName) {
            int number = Integer.parseInt(letters);
            return (p, day) -> number;
        }
        switch (letters) {
            case "k": return (p, day) -> p.kind;
            case "f": return (p, day) -> p.foreign.size();
            case "s": return (p, day) -> p.as().span(p);
            case "g": return (p, day) -> p.good.size();
            case "b": return (p, day) -> p.bench;
            default: return (p, day) -> day;
        }
    }
}
