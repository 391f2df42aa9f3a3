/** Promises 2 to 4: texts with faults told by hand, and many spoilt ones against a reading by tokens. */
public final class FaultTest {
    public static void main(String[] args) {
        byHand();
        spoilt();
        Due.end("FaultTest");
    }

    private static void faulty(String text, int number, int letter) {
        CadenzaEnds x = new CadenzaEnds();
        Due.is("hall() of '" + text + "'", Due.hall(x, text), -10 - number);
        Due.is("fault() of '" + text + "'", x.fault(), letter);
        Due.is("told(3) behind '" + text + "'", x.told(3), 0);
    }

    private static void sound(String text, int parts) {
        CadenzaEnds x = new CadenzaEnds();
        Due.is("hall() of '" + text + "'", Due.hall(x, text), parts);
        Due.is("fault() of '" + text + "'", x.fault(), CadenzaEnds.NONE);
    }

    private static void byHand() {
        sound("", 0);
        sound("   ", 0);
        sound(" p 0 0 0 1 , 2 , 3 , 4 ; s 8 8 ; c 20 20 20 ; l 30 30 ; i 11 99 ; ", 1);
        sound("p000 007 011 060;", 1);
        sound("p3 0 0 1;l0 0;i0 0;s0 0;c0 0 0;", 1);
        String seven = "p0 0 0 1;p0 0 0 1;p0 0 0 1;p0 0 0 1;p0 0 0 1;p0 0 0 1;p0 0 0 1;";
        sound(seven, 7);
        faulty(seven + "p", 3, 63);
        faulty(seven.substring(9) + "p3 0 0 1;p", 3, 63);
        faulty(seven.substring(9) + "p3 0 0 1;x", 1, 63);
        faulty("p3 0 0 1; p", 4, 10);
        faulty("p3 0 0 1;l0 0; p0", 4, 15);
        faulty("p3 7 0 1;", 4, 3);
        faulty("p3 07 0 1;", 4, 3);
        faulty("p3 8 0 1;", 2, 3);
        faulty("p3 1", 4, 3);
        faulty("p3 ;", 1, 3);
        faulty("p3", 1, 2);
        faulty("p3  ", 1, 4);
        faulty("p", 1, 1);
        faulty("P0 0 0 1;", 1, 0);
        faulty("0", 1, 0);
        faulty("1234", 1, 0);
        faulty(";", 1, 0);
        faulty(",", 1, 0);
        faulty("\t", 1, 0);
        faulty("" + (char) 255, 1, 0);
        faulty("" + (char) 0, 1, 0);
        faulty("p0 0 0 0;", 2, 7);
        faulty("p0 0 0 60,61;", 2, 10);
        faulty("p0 0 0 0001;", 2, 7);
        faulty("p0 0 0 1234x", 2, 7);
        faulty("p0 0 0 12345678901234567890;", 2, 7);
        faulty("p0000 0 0 1;", 2, 1);
        faulty("p4x", 2, 1);
        faulty("p00 0 1;", 1, 7);
        faulty("p0 0 0;", 1, 6);
        faulty("p0 0 0 1,;", 1, 9);
        faulty("p0 0 0 ,1;", 1, 7);
        faulty("p0 0 0 1 2;", 1, 9);
        faulty("p0 0 0 1,2,3,4 ,5;", 1, 15);
        faulty("p0 0 0 1,2,3,4,", 1, 14);
        faulty("p0 0 0 1", 1, 8);
        faulty("p0,0 0 1;", 1, 2);
        faulty("p0 0 0 -1;", 1, 7);
        faulty("s8 8;p0 0 0 1;s", 3, 14);
        faulty("c1 1 1; c", 3, 8);
        faulty("s8 9;", 2, 3);
        faulty("s8;", 1, 2);
        faulty("s8 8 8;", 1, 5);
        faulty("c1 1;", 1, 4);
        faulty("c21 0 0;", 2, 1);
        faulty("c0 21 0;", 2, 3);
        faulty("c0 0 21;", 2, 5);
        faulty("l0 31;", 2, 3);
        faulty("i12 0;", 2, 1);
        String five = "l0 0;l0 0;l0 0;l0 0;l0 0;";
        sound(five, 0);
        faulty(five + "l", 3, 25);
        faulty(five.replace('l', 'i') + "i", 3, 25);
        faulty("l0 0;;", 1, 5);
    }

    private static void spoilt() {
        Texts texts = new Texts(41);
        for (int round = 0; round < 60000; round++) {
            String text = texts.spoil(texts.some());
            CadenzaEnds x = round % 2 == 0 ? new CadenzaEnds() : Due.in("p1 2 3 4;l5 6;i7 8;s1 2;c3 4 5;");
            int had = x.told(0);
            int[] due = Texts.reading(text);
            int answer = Due.hall(x, text);
            Due.is("hall() of '" + text + "'", answer, due[0] == 0 ? due[1] : -10 - due[0]);
            Due.is("fault() of '" + text + "'", x.fault(), due[0] == 0 ? -1 : due[1]);
            if (due[0] != 0) {
                Due.is("told(0) behind '" + text + "'", x.told(0), had);
            }
        }
    }
}
