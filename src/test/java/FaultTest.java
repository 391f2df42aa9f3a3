import java.util.ArrayList;
import java.util.List;
import java.util.Random;

/** Promises 2 to 4: texts with faults told by hand, and many spoilt ones against a reading by tokens. */
public final class FaultTest {
    private static final Random RANDOM = new Random(41);

    public static void main(String[] args) {
        byHand();
        spoilt();
        Due.end("FaultTest");
    }

    private static void faulty(String text, int number, int letter) {
        CadenzaEnds x = new CadenzaEnds();
        Due.is("hall() of '" + text + "'", Due.hall(x, text), -10 - number);
        Due.is("fault() of '" + text + "'", x.fault(), letter);
        Due.is("told(3) behind '" + text + "'", x.told(3), 0);
    }

    private static void sound(String text, int parts) {
        CadenzaEnds x = new CadenzaEnds();
        Due.is("hall() of '" + text + "'", Due.hall(x, text), parts);
        Due.is("fault() of '" + text + "'", x.fault(), CadenzaEnds.NONE);
    }

    private static void byHand() {
        sound("", 0);
        sound("   ", 0);
        sound(" p 0 0 0 1 , 2 , 3 , 4 ; s 8 8 ; c 20 20 20 ; l 30 30 ; i 11 99 ; ", 1);
        sound("p000 007 011 060;", 1);
        sound("p3 0 0 1;l0 0;i0 0;s0 0;c0 0 0;", 1);
        String seven = "p0 0 0 1;p0 0 0 1;p0 0 0 1;p0 0 0 1;p0 0 0 1;p0 0 0 1;p0 0 0 1;";
        sound(seven, 7);
        faulty(seven + "p", 3, 63);
        faulty(seven.substring(9) + "p3 0 0 1;p", 3, 63);
        faulty(seven.substring(9) + "p3 0 0 1;x", 1, 63);
        faulty("p3 0 0 1; p", 4, 10);
        faulty("p3 0 0 1;l0 0; p0", 4, 15);
        faulty("p3 7 0 1;", 4, 3);
        faulty("p3 07 0 1;", 4, 3);
        faulty("p3 8 0 1;", 2, 3);
        faulty("p3 1", 4, 3);
        faulty("p3 ;", 1, 3);
        faulty("p3", 1, 2);
        faulty("p3  ", 1, 4);
        faulty("p", 1, 1);
        faulty("P0 0 0 1;", 1, 0);
        faulty("0", 1, 0);
        faulty("1234", 1, 0);
        faulty(";", 1, 0);
        faulty(",", 1, 0);
        faulty("\t", 1, 0);
        faulty("" + (char) 255, 1, 0);
        faulty("" + (char) 0, 1, 0);
        faulty("p0 0 0 0;", 2, 7);
        faulty("p0 0 0 60,61;", 2, 10);
        faulty("p0 0 0 0001;", 2, 7);
        faulty("p0 0 0 1234x", 2, 7);
        faulty("p0 0 0 12345678901234567890;", 2, 7);
        faulty("p0000 0 0 1;", 2, 1);
        faulty("p4x", 2, 1);
        faulty("p00 0 1;", 1, 7);
        faulty("p0 0 0;", 1, 6);
        faulty("p0 0 0 1,;", 1, 9);
        faulty("p0 0 0 ,1;", 1, 7);
        faulty("p0 0 0 1 2;", 1, 9);
        faulty("p0 0 0 1,2,3,4 ,5;", 1, 15);
        faulty("p0 0 0 1,2,3,4,", 1, 14);
        faulty("p0 0 0 1", 1, 8);
        faulty("p0,0 0 1;", 1, 2);
        faulty("p0 0 0 -1;", 1, 7);
        faulty("s8 8;p0 0 0 1;s", 3, 14);
        faulty("c1 1 1; c", 3, 8);
        faulty("s8 9;", 2, 3);
        faulty("s8;", 1, 2);
        faulty("s8 8 8;", 1, 5);
        faulty("c1 1;", 1, 4);
        faulty("c21 0 0;", 2, 1);
        faulty("c0 21 0;", 2, 3);
        faulty("c0 0 21;", 2, 5);
        faulty("l0 31;", 2, 3);
        faulty("i12 0;", 2, 1);
        String five = "l0 0;l0 0;l0 0;l0 0;l0 0;";
        sound(five, 0);
        faulty(five + "l", 3, 25);
        faulty(five.replace('l', 'i') + "i", 3, 25);
        faulty("l0 0;;", 1, 5);
    }

    private static void spoilt() {
        for (int round = 0; round < 60000; round++) {
            String text = spoil(someText());
            CadenzaEnds x = round % 2 == 0 ? new CadenzaEnds() : Due.in("p1 2 3 4;l5 6;i7 8;s1 2;c3 4 5;");
            int had = x.told(0);
            int[] due = reading(text);
            int answer = Due.hall(x, text);
            Due.is("hall() of '" + text + "'", answer, due[0] == 0 ? due[1] : -10 - due[0]);
            Due.is("fault() of '" + text + "'", x.fault(), due[0] == 0 ? -1 : due[1]);
            if (due[0] != 0) {
                Due.is("told(0) behind '" + text + "'", x.told(0), had);
            }
        }
    }

    private static String someText() {
        StringBuilder text = new StringBuilder();
        int clauses = RANDOM.nextInt(12);
        for (int i = 0; i < clauses && text.length() < 200; i++) {
            switch ("ppplis".charAt(RANDOM.nextInt(6))) {
                case 'p' -> {
                    text.append('p').append(RANDOM.nextInt(40) == 0 ? 3 : RANDOM.nextInt(3)).append(gap());
                    text.append(RANDOM.nextInt(4) == 0 ? RANDOM.nextInt(8) : 0).append(gap()).append(RANDOM.nextInt(12)).append(gap());
                    int lengths = 1 + RANDOM.nextInt(RANDOM.nextInt(20) == 0 ? 5 : 4);
                    for (int j = 0; j < lengths; j++) {
                        text.append(j == 0 ? "" : ",").append(1 + RANDOM.nextInt(60));
                    }
                }
                case 'l' -> text.append('l').append(RANDOM.nextInt(31)).append(gap()).append(RANDOM.nextInt(31));
                case 'i' -> text.append('i').append(RANDOM.nextInt(12)).append(gap()).append(RANDOM.nextInt(100));
                default -> text.append(RANDOM.nextBoolean() ? "s8 1" : "c1 2 3");
            }
            text.append(";");
        }
        return text.toString();
    }

    private static String gap() {
        return RANDOM.nextInt(10) == 0 ? "  " : " ";
    }

    private static String spoil(String text) {
        StringBuilder spoilt = new StringBuilder(text);
        int times = RANDOM.nextInt(3);
        for (int i = 0; i < times; i++) {
            int at = RANDOM.nextInt(spoilt.length() + 1);
            char letter = "pscli;, 0123456789x".charAt(RANDOM.nextInt(19));
            switch (RANDOM.nextInt(4)) {
                case 0 -> spoilt.insert(at, letter);
                case 1 -> spoilt.delete(Math.min(at, spoilt.length()), Math.min(at + 1, spoilt.length()));
                case 2 -> {
                    if (at < spoilt.length()) {
                        spoilt.setCharAt(at, letter);
                    }
                }
                default -> spoilt.setLength(RANDOM.nextInt(5) == 0 ? at : spoilt.length());
            }
        }
        return spoilt.length() > 250 ? spoilt.substring(0, 250) : spoilt.toString();
    }

    private record Token(String what, int at) {
        boolean isNumber() {
            return Character.isDigit(what.charAt(0));
        }
    }

    private static List<Token> tokens(String text) {
        List<Token> tokens = new ArrayList<>();
        int i = 0;
        while (i < text.length()) {
            int from = i;
            if (text.charAt(i) >= '0' && text.charAt(i) <= '9') {
                while (i < text.length() && text.charAt(i) >= '0' && text.charAt(i) <= '9') {
                    i++;
                }
            } else {
                i++;
            }
            if (text.charAt(from) != ' ') {
                tokens.add(new Token(text.substring(from, i), from));
            }
        }
        tokens.add(new Token("$", text.length()));
        return tokens;
    }

    /** The FAULT's number and letter; or 0 and how many PARTS. */
    private static int[] reading(String text) {
        int[][] bounds = {{0, 3, 0, 7, 0, 11, 1, 60, 1, 60, 1, 60, 1, 60}, {0, 8, 0, 8}, {0, 20, 0, 20, 0, 20}, {0, 30, 0, 30}, {0, 11, 0, 99}};
        int[] most = {7, 1, 1, 5, 5};
        int[] told = new int[5];
        boolean trill = false;
        int word = -1;
        int numbers = 0;
        boolean comma = false;
        int sort = 0;
        for (Token token : tokens(text)) {
            String what = token.what();
            int least = 99;
            if (word < 0) {
                int which = "pscli".indexOf(what);
                if (what.equals("$")) {
                    return new int[] {0, told[0]};
                }
                if (which < 0) {
                    least = 1;
                } else {
                    told[which]++;
                    least = which == 0 && trill ? 4 : least;
                    least = told[which] > most[which] ? 3 : least;
                }
                word = which;
                numbers = 0;
                comma = false;
            } else if (token.isNumber()) {
                boolean lengths = word == 0 && numbers >= 3;
                boolean may = numbers < bounds[word].length / 2 && (!lengths || numbers == 3 || comma);
                if (!may) {
                    least = 1;
                } else {
                    long value = what.length() > 3 ? -1 : Long.parseLong(what);
                    boolean fits = value >= bounds[word][numbers * 2] && value <= bounds[word][numbers * 2 + 1];
                    sort = word == 0 && numbers == 0 ? (int) value : sort;
                    least = word == 0 && numbers == 1 && sort == 3 && value != 0 ? 4 : least;
                    least = fits ? least : 2;
                }
                numbers++;
                comma = false;
            } else if (what.equals(",")) {
                least = word == 0 && numbers >= 4 && numbers < 7 && !comma ? least : 1;
                comma = true;
            } else if (what.equals(";")) {
                boolean whole = word == 0 ? numbers >= 4 && !comma : numbers == bounds[word].length / 2;
                least = whole ? least : 1;
                trill |= word == 0 && sort == 3;
                word = -1;
            } else {
                least = 1;
            }
            if (least < 99) {
                return new int[] {least, token.at()};
            }
        }
        throw new IllegalStateException(text);
    }
}
