import java.util.function.ToIntFunction;

/** The boundaries of THE HALL's text, sentence by sentence: bounds, counts, blanks, figures, faults, the empty text. */
public final class BoundsTextTest {
    private static final String PART = "p0 0 0 1;";

    public static void main(String[] args) {
        letters();
        numbers();
        counts();
        lengths();
        untold();
        figures();
        blanks();
        wordsAndNumbersSideBySide();
        theEnd();
        everyLetterAtEveryPlace();
        outOfBounds();
        againAndTooMany();
        theTrill();
        firstAndLeast();
        emptyText();
        Doc.named(Doc.TERMS, Doc.TERMS);
        Due.end("BoundsTextTest");
    }

    private static void sound(String text, int parts) {
        CadenzaEnds x = new CadenzaEnds();
        Due.is("hall() of '" + text + "'", Due.hall(x, text), parts);
        Due.is("fault() of '" + text + "'", x.fault(), CadenzaEnds.NONE);
    }

    private static void faulty(String text, int number, int letter) {
        CadenzaEnds x = new CadenzaEnds();
        Due.is("hall() of '" + text + "'", Due.hall(x, text), -10 - number);
        Due.is("fault() of '" + text + "'", x.fault(), letter);
    }

    private static void letters() {
        Doc.says(Doc.TERMS, "is told in a text (250 letters at most)");
        sound(PART + " ".repeat(241), 1);
        sound(" ".repeat(241) + PART, 1);
        faulty(" ".repeat(242) + PART.substring(0, 8), 1, 250);
        faulty(" ".repeat(249) + "x", 1, 249);
    }

    /** A NUMBER of the text: what stands ahead of and behind it, its bounds, and where it can be read again. */
    private record Place(String ahead, String behind, int least, int most, ToIntFunction<CadenzaEnds> told) {
        void ask(String number, int value) {
            CadenzaEnds x = new CadenzaEnds();
            String text = ahead + number + behind;
            boolean fits = number.length() <= 3 && value >= least && value <= most;
            Due.is("hall() of '" + text + "'", Due.hall(x, text), !fits ? -12 : text.startsWith("p") ? 1 : 0);
            Due.is("fault() of '" + text + "'", x.fault(), fits ? CadenzaEnds.NONE : ahead.length());
            if (fits) {
                Due.is("what '" + text + "' tells", told.applyAsInt(x), value);
            }
        }
    }

    private static Place[] places() {
        return new Place[] {
            new Place("p", " 0 0 1;", 0, 3, x -> x.part(0, 0)),
            new Place("p0 ", " 0 1;", 0, 7, x -> x.part(0, 1)),
            new Place("p0 0 ", " 1;", 0, 11, x -> x.part(0, 2)),
            new Place("p0 0 0 ", ";", 1, 60, x -> x.length(0, 0)),
            new Place("p0 0 0 ", ",1;", 1, 60, x -> x.length(0, 0)),
            new Place("p0 0 0 1,", ";", 1, 60, x -> x.length(0, 1)),
            new Place("p0 0 0 1,1,", ";", 1, 60, x -> x.length(0, 2)),
            new Place("p0 0 0 1,1,1,", ";", 1, 60, x -> x.length(0, 3)),
            new Place("s", " 0;", 0, 8, x -> x.told(4)),
            new Place("s0 ", ";", 0, 8, x -> x.told(5)),
            new Place("c", " 0 0;", 0, 20, x -> x.told(6)),
            new Place("c0 ", " 0;", 0, 20, x -> x.told(7)),
            new Place("c0 0 ", ";", 0, 20, x -> x.told(8)),
            new Place("l", " 0;", 0, 30, x -> x.player(0, 0)),
            new Place("l0 ", ";", 0, 30, x -> x.player(0, 1)),
            new Place("i", " 0;", 0, 11, x -> x.instrument(0, 0)),
            new Place("i0 ", ";", 0, 99, x -> x.instrument(0, 1))};
    }

    private static void numbers() {
        Doc.says(Doc.TERMS, "of SORT S 0 run, 1 tune, 2 false end, 3 the trill; left out by O of 8, 0 .. 7; in KEY K, 0 .. 11; "
                + "1 to 4 LENGTHS L, each as likely, 1 .. 60 tenths");
        Doc.says(Doc.TERMS, "0 .. 8 both");
        Doc.says(Doc.TERMS, "0 .. 20 each");
        Doc.says(Doc.TERMS, "0 .. 30 tenths both");
        Doc.says(Doc.TERMS, "chords of KEY K, 0 .. 11, noticed by N, 0 .. 99");
        Doc.says(Doc.TERMS, "out of its bounds (at its first)");
        for (Place place : places()) {
            for (int value = 0; value <= 1005; value++) {
                place.ask(Integer.toString(value), value);
            }
        }
    }

    private static void counts() {
        Doc.says(Doc.TERMS, "7 PARTS at most");
        for (int many = 1; many <= 7; many++) {
            sound(PART.repeat(many), many);
        }
        faulty(PART.repeat(8), 3, 63);
        String[] rows = {"l0 0;", "i0 0;"};
        for (int which = 0; which < 2; which++) {
            Doc.says(Doc.TERMS, which == 0 ? "5 PLAYERS at most" : "5 INSTRUMENTS at most");
            for (int many = 0; many <= 5; many++) {
                CadenzaEnds x = Due.in(rows[which].repeat(many));
                Due.is("how many", x.told(1 + which), many);
            }
            faulty(rows[which].repeat(6), 3, 25);
        }
        Doc.says(Doc.TERMS, "8 0 untold; once");
        sound("s1 1;", 0);
        faulty("s1 1;s1 1;", 3, 5);
        Doc.says(Doc.TERMS, "3 2 1 untold; once");
        sound("c1 1 1;", 0);
        faulty("c1 1 1;c1 1 1;", 3, 7);
    }

    private static void lengths() {
        Doc.says(Doc.TERMS, "1 to 4 LENGTHS L");
        faulty("p0 0 0;", 1, 6);
        String text = "p0 0 0 1";
        for (int many = 1; many <= 4; many++) {
            CadenzaEnds x = Due.in(text + ";");
            Due.is("how many LENGTHS", x.part(0, 3), many);
            text += "," + (many + 1);
        }
        Doc.says(Doc.TERMS, "a fifth L: at its ','");
        faulty("p0 0 0 1,2,3,4,5;", 1, 14);
        faulty("p0 0 0 1,2,3,4 , 5;", 1, 15);
        faulty("p0 0 0 1,2,3,4,99;", 1, 14);
    }

    private static void untold() {
        Doc.says(Doc.TERMS, "8 0 untold");
        CadenzaEnds x = Due.in("s3 4;c5 6 7;");
        x.sign(1, 2);
        x.costs(9, 9, 9);
        Due.is("hall()", Due.hall(x, PART), 1);
        Due.is("A", x.told(4), 8);
        Due.is("B", x.told(5), 0);
        Doc.says(Doc.TERMS, "3 2 1 untold");
        Due.is("E", x.told(6), 3);
        Due.is("L", x.told(7), 2);
        Due.is("H", x.told(8), 1);
    }

    private static void figures() {
        Doc.says(Doc.TERMS, "NUMBERS have one to three figures");
        for (Place place : places()) {
            for (int value : new int[] {place.least, place.most}) {
                String number = Integer.toString(value);
                for (int zeros = 0; zeros <= 6; zeros++) {
                    place.ask("0".repeat(zeros) + number, value);
                }
            }
        }
        Doc.says(Doc.TERMS, "a NUMBER of four figures or more");
        faulty("p0 0 0 0001;", 2, 7);
        faulty("p0 0 0 4294967297;", 2, 7);
        faulty("p0 0 0 18446744073709551617;", 2, 7);
        faulty("p" + "0".repeat(249), 2, 1);
    }

    private static void blanks() {
        Doc.says(Doc.TERMS, "blanks (32) may stand anywhere but within NUMBERS");
        sound(" p 0 1 2 3 , 4 ; s 1 1 ; c 1 1 1 ; l 1 1 ; i 1 1 ; ", 1);
        sound("   p   0   1   2   3   ,   4   ;   ", 1);
        faulty("p0 0 1 1 1;", 1, 9);
        faulty("p0 0 0 1 0;", 1, 9);
        faulty("s 1 1 1;", 1, 6);
        // no other letter is a blank
        for (int letter = 0; letter < 32; letter++) {
            faulty("p" + (char) letter + "0 0 0 1;", 1, 1);
        }
        faulty("p" + (char) 160 + "0 0 0 1;", 1, 1);
    }

    private static void wordsAndNumbersSideBySide() {
        Doc.says(Doc.TERMS, "two NUMBERS side by side need one");
        faulty("p00 0 1;", 1, 7);
        faulty("s11;", 2, 1);
        faulty("s01;", 1, 3);
        faulty("l11;", 1, 3);
        Doc.says(Doc.TERMS, "a word is one letter");
        faulty("pp0 0 0 1;", 1, 1);
        faulty("part", 1, 1);
        faulty("P0 0 0 1;", 1, 0);
        sound("p0 0 0 1;l0 0;i0 0;s0 0;c0 0 0;", 1);
    }

    private static void theEnd() {
        Doc.says(Doc.TERMS, "(the end at the text's length)");
        String text = "p0 1 2 3,4;s5 6;c7 8 9;l1 2;i3 4;";
        for (int length = 0; length <= text.length(); length++) {
            String cut = text.substring(0, length);
            for (int more = 0; more < 3; more++) {
                if (cut.isEmpty() || cut.endsWith(";")) {
                    sound(cut + " ".repeat(more), cut.isEmpty() ? 0 : 1);
                } else {
                    faulty(cut + " ".repeat(more), 1, length + more);
                }
            }
        }
    }

    /** What may stand behind a beginning; each other letter has fault 1, at once. */
    private static void everyLetterAtEveryPlace() {
        Doc.says(Doc.TERMS, "1 it cannot stand there (a letter that is no word; a fifth L: at its ',')");
        String figures = "0123456789";
        String[][] places = {
            {"", " pscli"}, {PART, " pscli"}, {"s1 1;", " pcli"}, {" ", " pscli"},
            {"p", " " + figures}, {"p0", " " + figures}, {"p0 ", " " + figures}, {"p0 0 ", " " + figures},
            {"p0 0 0 ", " " + figures}, {"p0 0 0 1", " ,;" + figures}, {"p0 0 0 1 ", " ,;"}, {"p0 0 0 1,", " " + figures},
            {"p0 0 0 1,1,1,1", " ;" + figures}, {"p0 0 0 1,1,1,1 ", " ;"},
            {"s", " " + figures}, {"s1", " " + figures}, {"s1 ", " " + figures}, {"s1 1", " ;" + figures}, {"s1 1 ", " ;"},
            {"c", " " + figures}, {"c1 1", " " + figures}, {"c1 1 1", " ;" + figures}, {"c1 1 1 ", " ;"},
            {"l", " " + figures}, {"l1 1", " ;" + figures}, {"l1 1 ", " ;"},
            {"i", " " + figures}, {"i1 1", " ;" + figures}, {"i1 1 ", " ;"}};
        for (String[] place : places) {
            for (int letter = 0; letter < 256; letter++) {
                CadenzaEnds x = new CadenzaEnds();
                int answer = Due.hall(x, place[0] + (char) letter);
                boolean atOnce = answer == -11 && x.fault() == place[0].length();
                boolean may = place[1].indexOf(letter) >= 0;
                boolean again = place[0].startsWith("s1 1;") && letter == 's';
                Due.is("letter " + letter + " behind '" + place[0] + "' stands wrong", atOnce ? 1 : 0, may || again ? 0 : 1);
            }
        }
    }

    private static void outOfBounds() {
        Doc.says(Doc.TERMS, "2 a NUMBER of four figures or more, or out of its bounds (at its first)");
        faulty("p4 0 0 1;", 2, 1);
        faulty("p  4", 2, 3);
        faulty("p0 8 0 1;", 2, 3);
        faulty("p0 0 12 1;", 2, 5);
        faulty("p0 0 0 0;", 2, 7);
        faulty("p0 0 0 61;", 2, 7);
        faulty("p0 0 0 1,  61;", 2, 11);
        faulty("p0 0 0 999x", 2, 7);
        faulty("p0 0 0 1;s9 0;", 2, 10);
    }

    private static void againAndTooMany() {
        Doc.says(Doc.TERMS, "3 an eighth 'p', a sixth 'l', a sixth 'i', 's', 'c' again (at it)");
        faulty(PART.repeat(7) + "l0 0; p", 3, 69);
        faulty("l0 0;".repeat(5) + PART + "l", 3, 34);
        faulty("i0 0;".repeat(5) + PART + " i", 3, 35);
        faulty("s0 0;" + PART + "s", 3, 14);
        faulty("c0 0 0;" + PART + "c", 3, 16);
        sound(PART.repeat(7) + "l0 0;".repeat(5) + "i0 0;".repeat(5) + "s0 0;c0 0 0;", 7);
        // what was told in an earlier text does not count
        CadenzaEnds x = Due.in(PART.repeat(7) + "l0 0;".repeat(5) + "i0 0;".repeat(5) + "s0 0;c0 0 0;");
        Due.is("hall() again", Due.hall(x, PART.repeat(7) + "l0 0;".repeat(5) + "i0 0;".repeat(5) + "s0 0;c0 0 0;"), 7);
    }

    private static void theTrill() {
        Doc.says(Doc.TERMS, "4 a PART of SORT 3 with O other than 0 (at the O)");
        sound("p3 0 0 1;", 1);
        sound("p3 000 0 1;", 1);
        for (int o = 1; o <= 7; o++) {
            faulty("p3 " + o + " 0 1;", 4, 3);
            faulty("p3   " + o, 4, 5);
            sound("p2 " + o + " 0 1;", 1);
        }
        Doc.says(Doc.TERMS, "a PART behind one of SORT 3 (at its 'p')");
        sound(PART + "p3 0 0 1;l0 0;i0 0;s0 0;c0 0 0;", 2);
        faulty("p3 0 0 1;" + PART, 4, 9);
        faulty("p3 0 0 1;p3 0 0 1;", 4, 9);
        faulty("p3 0 0 1; l0 0; p", 4, 16);
        sound(PART.repeat(6) + "p3 0 0 1;", 7);
    }

    private static void firstAndLeast() {
        Doc.says(Doc.TERMS, "FAULTS, at the first letter that has one");
        faulty("p3 1 0 1;x", 4, 3);
        faulty("p3 0 0 1;" + PART + "x", 4, 9);
        faulty("s0 0;s9 9;x", 3, 5);
        faulty("p0 9 0 1,1,1,1,1;", 2, 3);
        faulty("x9999", 1, 0);
        Doc.says(Doc.TERMS, "of these the least");
        faulty("p0 0 0 1 9999;", 1, 9);
        faulty("p0 0 0 1 99;", 1, 9);
        faulty("p3 8 0 1;", 2, 3);
        faulty("p3 0001 0 1;", 2, 3);
        faulty(PART.repeat(6) + "p3 0 0 1;p", 3, 63);
    }

    private static void emptyText() {
        Doc.says(Doc.TERMS, "An empty text: no PARTS.");
        sound("", 0);
        sound(" ", 0);
        CadenzaEnds x = Due.in(PART + "l1 1;i1 1;");
        Due.is("hall() of an empty text", x.hall(), 0);
        Due.is("PARTS", x.told(0), 0);
        Due.is("PLAYERS", x.told(1), 0);
        Due.is("INSTRUMENTS", x.told(2), 0);
        Due.is("it ends at", x.edge(1), 0);
    }
}
