/** Promises 33 to 38: entries, the book, tearing them up. */
public final class RecordsTest {
    private static final int UNKNOWN = CadenzaEnds.UNKNOWN;
    private static final int OUTSIDE = CadenzaEnds.OUTSIDE;
    private static final int NONE = CadenzaEnds.NONE;
    private static final int FULL = CadenzaEnds.FULL;

    public static void main(String[] args) {
        entries();
        writing();
        judging();
        tearing();
        Due.end("RecordsTest");
    }

    private static void entries() {
        CadenzaEnds x = Due.in("p0 0 0 1;l1 1;l2 2;l3 3;");
        Due.is("firstIn", x.firstIn(0), NONE);
        Due.is("firstIn", x.firstIn(1), NONE);
        Due.is("firstIn what", x.firstIn(2), OUTSIDE);
        Due.is("firstIn what", x.firstIn(-1), OUTSIDE);
        Due.is("ahead of none", x.ahead(999), 0);
        Due.is("enter", x.enter(2, 999), 1);
        Due.is("firstIn", x.firstIn(0), 2);
        Due.is("firstIn", x.firstIn(1), 999);
        Due.is("ahead 999", x.ahead(999), 0);
        Due.is("enter", x.enter(2, 40), 2);
        Due.is("enter", x.enter(1, 40), 3);
        Due.is("enter", x.enter(2, 40), 4);
        Due.is("of like ones the least", x.firstIn(0), 1);
        Due.is("at", x.firstIn(1), 40);
        Due.is("ahead 40", x.ahead(40), 0);
        Due.is("ahead 41", x.ahead(41), 3);
        Due.is("ahead 0", x.ahead(0), 0);
        Due.is("ahead -1", x.ahead(-1), OUTSIDE);
        Due.is("ahead 1000", x.ahead(1000), OUTSIDE);
        Due.is("enter 3", x.enter(3, 1000), UNKNOWN);
        Due.is("enter -1", x.enter(-1, 0), UNKNOWN);
        Due.is("enter at -1", x.enter(0, -1), OUTSIDE);
        Due.is("enter at 1000", x.enter(0, 1000), OUTSIDE);
        for (int i = 5; i <= 12; i++) {
            Due.is("enter", x.enter(0, 500), i);
        }
        Due.is("enter, full", x.enter(0, 0), FULL);
        Due.is("enter, full, outside", x.enter(0, 1000), OUTSIDE);
        Due.is("enter, full, unknown", x.enter(3, 1000), UNKNOWN);
        Due.is("told 12", x.told(12), 12);
        Due.is("firstIn", x.firstIn(1), 40);
        Due.is("ahead 999", x.ahead(999), 11);
        CadenzaEnds one = Due.in("l1 1;");
        one.enter(0, 3);
        Due.is("ahead 4", one.ahead(4), 1);
        Due.is("ahead 3", one.ahead(3), 0);
    }

    private static void writing() {
        CadenzaEnds x = Due.in("p0 1 0 1;p0 0 0 60;");
        Due.is("write 2", x.write(2, 61), UNKNOWN);
        Due.is("write -1", x.write(-1, 0), UNKNOWN);
        Due.is("write 61", x.write(0, 61), OUTSIDE);
        Due.is("write -1", x.write(0, -1), OUTSIDE);
        Due.is("told 13", x.told(13), 0);
        for (int i = 1; i <= 20; i++) {
            Due.is("write", x.write((i + 1) % 2, i % 2 == 1 ? 0 : 60), i);
        }
        Due.is("write, full", x.write(0, 1), FULL);
        Due.is("write, full, outside", x.write(0, 61), OUTSIDE);
        Due.is("write, full, unknown", x.write(2, 61), UNKNOWN);
        Due.is("told 13", x.told(13), 20);
        Due.is("judge", x.judge(), NONE);
    }

    private static void judged(int due, int... lines) {
        CadenzaEnds x = Due.in("p0 0 0 10,20;p2 4 7 5,9;p3 0 0 8;");
        for (int i = 0; i + 1 < lines.length; i += 2) {
            x.write(lines[i], lines[i + 1]);
        }
        Due.is("judge " + java.util.Arrays.toString(lines), x.judge(), due);
    }

    private static void judging() {
        Due.is("judge without parts", new CadenzaEnds().judge(), NONE);
        judged(NONE);
        judged(NONE, 0, 10);
        judged(NONE, 0, 20, 1, 0, 2, 8, 0, 10, 1, 5, 2, 8, 0, 10);
        judged(0, 0, 0);
        judged(0, 0, 11);
        judged(0, 1, 5);
        judged(1, 0, 10, 0, 10);
        judged(1, 0, 10, 2, 8);
        judged(1, 0, 10, 1, 6);
        judged(2, 0, 10, 1, 0, 2, 0);
        judged(2, 0, 10, 1, 9, 0, 10);
        judged(3, 0, 10, 1, 9, 2, 8, 1, 5, 2, 9);
        CadenzaEnds one = Due.in("p0 3 0 4;");
        one.write(0, 4);
        one.write(0, 0);
        one.write(0, 3);
        Due.is("judge of one", one.judge(), 2);
    }

    private static void tearing() {
        CadenzaEnds x = Due.in("p0 0 0 10,20;l1 1;");
        Due.is("tear nothing", x.tear(), 0);
        x.enter(0, 3);
        x.enter(0, 4);
        x.write(0, 0);
        Due.is("judge", x.judge(), 0);
        Due.is("tear", x.tear(), 3);
        Due.is("told 12", x.told(12), 0);
        Due.is("told 13", x.told(13), 0);
        Due.is("firstIn", x.firstIn(1), NONE);
        Due.is("ahead", x.ahead(999), 0);
        Due.is("judge", x.judge(), NONE);
        Due.is("enter anew", x.enter(0, 3), 1);
        Due.is("write anew", x.write(0, 10), 1);
        Due.is("tear again", x.tear(), 2);
    }
}
