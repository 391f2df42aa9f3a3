import java.util.ArrayList;
import java.util.List;
import java.util.Random;

/** Texts of halls, sound and spoilt, and a reading of them by tokens, written apart from the class. */
final class Texts {
    private final Random random;

    Texts(long seed) {
        random = new Random(seed);
    }

    String some() {
        StringBuilder text = new StringBuilder();
        int clauses = random.nextInt(12);
        for (int i = 0; i < clauses && text.length() < 200; i++) {
            switch ("ppplis".charAt(random.nextInt(6))) {
                case 'p' -> {
                    text.append('p').append(random.nextInt(40) == 0 ? 3 : random.nextInt(3)).append(gap());
                    text.append(random.nextInt(4) == 0 ? random.nextInt(8) : 0).append(gap()).append(random.nextInt(12)).append(gap());
                    int lengths = 1 + random.nextInt(random.nextInt(20) == 0 ? 5 : 4);
                    for (int j = 0; j < lengths; j++) {
                        text.append(j == 0 ? "" : ",").append(1 + random.nextInt(60));
                    }
                }
                case 'l' -> text.append('l').append(random.nextInt(31)).append(gap()).append(random.nextInt(31));
                case 'i' -> text.append('i').append(random.nextInt(12)).append(gap()).append(random.nextInt(100));
                default -> text.append(random.nextBoolean() ? "s8 1" : "c1 2 3");
            }
            text.append(";");
        }
        return text.toString();
    }

    /** A sound text of up to four PARTS: few enough to list every cadenza. */
    String sound() {
        StringBuilder text = new StringBuilder();
        int parts = random.nextInt(8) == 0 ? 0 : 1 + random.nextInt(4);
        int longest = random.nextInt(3) == 0 ? 4 : 60;
        for (int p = 0; p < parts; p++) {
            boolean trill = p == parts - 1 && random.nextInt(3) > 0;
            text.append('p').append(trill ? 3 : random.nextInt(3)).append(gap()).append(trill ? 0 : random.nextInt(8)).append(gap());
            text.append(random.nextInt(12)).append(gap()).append(1 + random.nextInt(longest));
            for (int more = random.nextInt(4); more > 0; more--) {
                text.append(',').append(1 + random.nextInt(longest));
            }
            text.append(';');
        }
        for (int players = random.nextInt(4) == 0 ? 0 : 1 + random.nextInt(5); players > 0; players--) {
            text.append('l').append(random.nextInt(31)).append(gap()).append(random.nextInt(31)).append(';');
        }
        for (int instruments = random.nextInt(6); instruments > 0; instruments--) {
            text.append('i').append(random.nextInt(12)).append(gap()).append(random.nextInt(30)).append(';');
        }
        text.append(random.nextBoolean() ? "s" + random.nextInt(9) + gap() + random.nextInt(9) + ";" : "");
        text.append(random.nextBoolean() ? "c" + random.nextInt(21) + gap() + random.nextInt(21) + gap() + random.nextInt(21) + ";" : "");
        return text.toString();
    }

    private String gap() {
        return random.nextInt(10) == 0 ? "  " : " ";
    }

    String spoil(String text) {
        StringBuilder spoilt = new StringBuilder(text);
        int times = random.nextInt(3);
        for (int i = 0; i < times; i++) {
            int at = random.nextInt(spoilt.length() + 1);
            char letter = "pscli;, 0123456789x".charAt(random.nextInt(19));
            switch (random.nextInt(4)) {
                case 0 -> spoilt.insert(at, letter);
                case 1 -> spoilt.delete(Math.min(at, spoilt.length()), Math.min(at + 1, spoilt.length()));
                case 2 -> {
                    if (at < spoilt.length()) {
                        spoilt.setCharAt(at, letter);
                    }
                }
                default -> spoilt.setLength(random.nextInt(5) == 0 ? at : spoilt.length());
            }
        }
        return spoilt.length() > 250 ? spoilt.substring(0, 250) : spoilt.toString();
    }

    private record Token(String what, int at) {
        boolean isNumber() {
            return Character.isDigit(what.charAt(0));
        }
    }

    private static List<Token> tokens(String text) {
        List<Token> tokens = new ArrayList<>();
        int i = 0;
        while (i < text.length()) {
            int from = i;
            if (text.charAt(i) >= '0' && text.charAt(i) <= '9') {
                while (i < text.length() && text.charAt(i) >= '0' && text.charAt(i) <= '9') {
                    i++;
                }
            } else {
                i++;
            }
            if (text.charAt(from) != ' ') {
                tokens.add(new Token(text.substring(from, i), from));
            }
        }
        tokens.add(new Token("$", text.length()));
        return tokens;
    }

    /** The FAULT's number and letter; or 0 and how many PARTS. */
    static int[] reading(String text) {
        int[][] bounds = {{0, 3, 0, 7, 0, 11, 1, 60, 1, 60, 1, 60, 1, 60}, {0, 8, 0, 8}, {0, 20, 0, 20, 0, 20}, {0, 30, 0, 30}, {0, 11, 0, 99}};
        int[] most = {7, 1, 1, 5, 5};
        int[] told = new int[5];
        boolean trill = false;
        int word = -1;
        int numbers = 0;
        boolean comma = false;
        int sort = 0;
        for (Token token : tokens(text)) {
            String what = token.what();
            int least = 99;
            if (word < 0) {
                int which = "pscli".indexOf(what);
                if (what.equals("$")) {
                    return new int[] {0, told[0]};
                }
                if (which < 0) {
                    least = 1;
                } else {
                    told[which]++;
                    least = which == 0 && trill ? 4 : least;
                    least = told[which] > most[which] ? 3 : least;
                }
                word = which;
                numbers = 0;
                comma = false;
            } else if (token.isNumber()) {
                boolean lengths = word == 0 && numbers >= 3;
                boolean may = numbers < bounds[word].length / 2 && (!lengths || numbers == 3 || comma);
                if (!may) {
                    least = 1;
                } else {
                    long value = what.length() > 3 ? -1 : Long.parseLong(what);
                    boolean fits = value >= bounds[word][numbers * 2] && value <= bounds[word][numbers * 2 + 1];
                    sort = word == 0 && numbers == 0 ? (int) value : sort;
                    least = word == 0 && numbers == 1 && sort == 3 && value != 0 ? 4 : least;
                    least = fits ? least : 2;
                }
                numbers++;
                comma = false;
            } else if (what.equals(",")) {
                least = word == 0 && numbers >= 4 && numbers < 7 && !comma ? least : 1;
                comma = true;
            } else if (what.equals(";")) {
                boolean whole = word == 0 ? numbers >= 4 && !comma : numbers == bounds[word].length / 2;
                least = whole ? least : 1;
                trill |= word == 0 && sort == 3;
                word = -1;
            } else {
                least = 1;
            }
            if (least < 99) {
                return new int[] {least, token.at()};
            }
        }
        throw new IllegalStateException(text);
    }
}
