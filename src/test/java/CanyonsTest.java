/** Promises 1 to 7: a new object, write, wipe, fault, lay, face, word. */
public final class CanyonsTest {
    private static final int BAD = EchoPaysRent.BAD, NO = EchoPaysRent.NO;
    private static final int FULL = EchoPaysRent.FULL, NONE = EchoPaysRent.NONE;

    private CanyonsTest() {
    }

    public static void main(String[] args) {
        newObject();
        write();
        wipe();
        faultOfItems();
        faultOfNumbers();
        faultOfTooMany();
        layTakesTheText();
        layForgets();
        layRefused();
        face();
        word();
        Due.finish("CanyonsTest");
    }

    private static void newObject() {
        EchoPaysRent x = new EchoPaysRent();
        int[] counts = {1, 2, 0, 10, 1, 0, 0, 0, 0, 0};
        for (int what = 0; what < counts.length; what++) {
            Due.due("1: count(" + what + ")", x.count(what), counts[what]);
        }
        int[] cliff = {20, 2, 0, 0};
        int[] first = {0, 1, 50, 1};
        int[] second = {3, 2, 50, 1};
        for (int what = 0; what < 4; what++) {
            Due.due("1: face(0, " + what + ")", x.face(0, what), cliff[what]);
            Due.due("1: word(0, " + what + ")", x.word(0, what), first[what]);
            Due.due("1: word(1, " + what + ")", x.word(1, what), second[what]);
        }
        Due.due("1: fault()", x.fault(), NONE);
        Due.due("1: undo()", x.undo(), NO);
        Due.due("1: back()", x.back(), NO);
    }

    private static void write() {
        EchoPaysRent x = new EchoPaysRent();
        Due.due("2: write(0, 1)", x.write(0, 1), BAD);
        Due.due("2: write(9, 1)", x.write(9, 1), BAD);
        Due.due("2: write(-1, 1)", x.write(-1, 1), BAD);
        Due.due("2: write(MIN, 1)", x.write(Integer.MIN_VALUE, 1), BAD);
        Due.due("2: write(MAX, 1)", x.write(Integer.MAX_VALUE, 1), BAD);
        Due.due("2: the length", x.count(9), 0);
        // only the lowest n bytes of v, and of these the highest first: a1; then s9;
        Due.due("2: write(3, ??a1;)", x.write(3, 0xFFEE61313BL), 3);
        Due.due("2: write(1, s)", x.write(1, 's'), 4);
        Due.due("2: write(2, 9;)", x.write(2, '9' << 8 | ';'), 6);
        Due.due("2: fault()", x.fault(), NONE);
        Due.due("2: write(8, -1)", x.write(8, -1L), 14);
        Due.due("2: fault() at a byte 255", x.fault(), 6);
        fillUp();
    }

    private static void fillUp() {
        EchoPaysRent x = new EchoPaysRent();
        for (int i = 1; i <= 37; i++) {
            Due.due("2: write(8, ..)", x.write(8, 0), 8 * i);
        }
        Due.due("2: 301 bytes", x.write(5, 0), FULL);
        Due.due("2: BAD before FULL", x.write(9, 0), BAD);
        Due.due("2: nothing is written then", x.count(9), 296);
        Due.due("2: 300 bytes", x.write(4, 0), 300);
        Due.due("2: one more", x.write(1, 0), FULL);
        Due.due("2: the length", x.count(9), 300);
    }

    private static void wipe() {
        EchoPaysRent x = Due.withText("nonsense");
        Due.due("3: fault()", x.fault(), 0);
        Due.due("3: wipe()", x.wipe(), 8);
        Due.due("3: wipe() again", x.wipe(), 0);
        Due.due("3: fault()", x.fault(), NONE);
        Due.due("3: count(9)", x.count(9), 0);
        Due.due("3: the canyon stays", x.count(1), 2);
        Due.write(x, "w1,1,1;");
        Due.due("3: what is written then stands alone", x.lay(), 1);
    }

    private static void fault(String text, int want) {
        Due.due("4: fault() of " + text, Due.withText(text).fault(), want);
    }

    private static void faultOfItems() {
        fault("", NONE);
        fault("f1,2,3;w4,5,6;s7;h8;a9;", NONE);
        fault("a1;a2;a9;s1;s2;h3;h40;", NONE);
        fault("f1,2,3", 0);
        fault("s1;s2", 3);
        fault("s1;s", 3);
        fault("s1;;", 3);
        fault("s1;x1;", 3);
        fault("S1;", 0);
        fault(" s1;", 0);
        fault("s1; h1;", 3);
        fault("s1;h1 ;", 3);
        fault("s1,2;", 0);
        fault("s;", 0);
        fault("h1;f1,2;", 3);
        fault("h1;f1,2,3,1;", 3);
        fault("h1;f1;2;3;", 3);
        fault("h1;f,2,3;", 3);
        fault("h1;f1,,3;", 3);
        fault("h1;f1,2,;", 3);
        fault("h1;w1,1.1;", 3);
        fault("1;", 0);
        fault(";", 0);
        // the signs beside the figures
        fault("s/;", 0);
        fault("s:;", 0);
        fault("s1/;", 0);
        fault("s1:;", 0);
        fault("s\u00b2;", 0);
        fault("f1,:,3;", 0);
        fault("s1;\0", 3);
        // the first of two
        fault("a1;a0;f9,9,9;", 3);
    }

    private static void faultOfNumbers() {
        fault("f00,00,00;w00,01,01;s00;h00;a01;", NONE);
        fault("f40,9,3;w30,7,60;s40;h40;a9;", NONE);
        fault("f000,0,0;", 0);
        fault("s100;", 0);
        fault("s001;", 0);
        fault("s-1;", 0);
        fault("f41,0,0;", 0);
        fault("f0,10,0;", 0);
        fault("f0,0,4;", 0);
        fault("w31,1,1;", 0);
        fault("w0,0,1;", 0);
        fault("w0,8,1;", 0);
        fault("w0,1,0;", 0);
        fault("w0,1,61;", 0);
        fault("s41;", 0);
        fault("h41;", 0);
        fault("a0;", 0);
        fault("a10;", 0);
    }

    private static void faultOfTooMany() {
        fault("f1,1,1;f1,1,1;f1,1,1;f1,1,1;", NONE);
        fault("f1,1,1;f1,1,1;f1,1,1;f1,1,1;f1,1,1;", 28);
        fault("w1,1,1;".repeat(8), NONE);
        fault("w1,1,1;".repeat(8) + "a1;w1,1,1;", 59);
        // 300 bytes of good items
        fault("a1;".repeat(100), NONE);
        fault("a1;".repeat(99) + "a1", 297);
    }

    private static void layTakesTheText() {
        EchoPaysRent x = Due.withText("f7,8,1;w2,3,4;s5;h6;a7;f9,0,3;w12,7,60;s15;h16;a8;");
        Due.due("5: lay()", x.lay(), 2);
        int[] counts = {2, 2, 15, 16, 8, 0, 0, 0, 0, 50};
        for (int what = 0; what < counts.length; what++) {
            Due.due("5: count(" + what + ")", x.count(what), counts[what]);
        }
        Due.due("5: face(1, 2)", x.face(1, 2), 3);
        Due.due("5: word(1, 2)", x.word(1, 2), 60);
        x.wipe();
        Due.write(x, "w1,1,1;");
        Due.due("5: lay() of one without all else", x.lay(), 1);
        int[] without = {0, 1, 0, 10, 1, 0, 0, 0, 0, 7};
        for (int what = 0; what < without.length; what++) {
            Due.due("5: count(" + what + ") without", x.count(what), without[what]);
        }
    }

    private static void layForgets() {
        EchoPaysRent x = Due.laid("f7,8,1;w2,3,4;");
        x.snow(1);
        x.talk(1);
        x.ear(1, 1, 1);
        x.keep();
        x.go(0, 3);
        x.say(1, 1, 1);
        Due.due("5: lay()", x.lay(), 1);
        Due.due("5: no SNOW", x.face(0, 3), 0);
        Due.due("5: no TALK", x.count(5), 0);
        Due.due("5: no EARS", x.count(6), 0);
        Due.due("5: nothing UNDONE", x.count(7), 0);
        Due.due("5: nothing KEPT", x.count(8), 0);
        Due.due("5: undo()", x.undo(), NO);
        Due.due("5: back()", x.back(), NO);
        Due.due("5: the SPEAKER", x.count(2), 0);
        Due.due("5: lines(0)", x.lines(0), NO);
        // what was asked before does not come into it
        x.snow(1);
        x.thick();
        x.wipe();
        Due.write(x, "f1,1,1;w5,5,5;w6,6,6;");
        Due.due("5: lay()", x.lay(), 2);
        Due.due("5: no SNOW", x.face(0, 3), 0);
        Due.due("5: CLIFFS", x.count(0), 1);
        Due.due("5: face(0, 0)", x.face(0, 0), 1);
        Due.due("5: word(0, 0)", x.word(0, 0), 5);
    }

    private static void layRefused() {
        EchoPaysRent x = new EchoPaysRent();
        x.go(1, 5);
        x.snow(1);
        x.talk(1);
        x.ear(1, 1, 1);
        x.keep();
        Due.due("5: lay() of nothing", x.lay(), NO);
        Due.write(x, "f1,1,1;s30;h30;a5;");
        Due.due("5: lay() without a WORD", x.lay(), NO);
        Due.write(x, "w1,1,1;w");
        Due.due("5: lay() with a FAULT", x.lay(), NO);
        int[] counts = {1, 2, 0, 5, 1, 1, 1, 2, 1, 26};
        for (int what = 0; what < counts.length; what++) {
            Due.due("5: count(" + what + ") is as it was", x.count(what), counts[what]);
        }
        Due.due("5: SNOW is as it was", x.face(0, 3), 1);
        Due.due("5: the CLIFF is as it was", x.face(0, 0), 20);
    }

    private static void face() {
        EchoPaysRent x = Due.laid("f7,8,1;f40,9,3;f0,0,0;f13,5,2;w2,3,4;");
        int[][] told = {{7, 8, 1, 0}, {40, 9, 3, 1}, {0, 0, 0, 1}, {13, 5, 2, 0}};
        x.snow(6);
        for (int f = 0; f < 4; f++) {
            for (int what = 0; what < 4; what++) {
                Due.due("6: face(" + f + ", " + what + ")", x.face(f, what), told[f][what]);
            }
        }
        int[][] bad = {{-1, 0}, {4, 0}, {0, -1}, {0, 4}, {Integer.MAX_VALUE, 0}, {Integer.MIN_VALUE, 3}};
        for (int[] b : bad) {
            Due.due("6: face(" + b[0] + ", " + b[1] + ")", x.face(b[0], b[1]), BAD);
        }
        Due.due("6: face(0, 0) of no CLIFF", Due.laid("w1,1,1;").face(0, 0), BAD);
        Due.due("6: face(1, 0) of one", new EchoPaysRent().face(1, 0), BAD);
    }

    private static void word() {
        EchoPaysRent x = Due.laid("w2,3,4;w30,7,60;w0,1,10;w0,2,11;");
        // the HEARER is 10 yards off: 4 and 10 do not come
        int[][] told = {{2, 3, 4, 0}, {30, 7, 60, 1}, {0, 1, 10, 0}, {0, 2, 11, 1}};
        for (int w = 0; w < 4; w++) {
            for (int what = 0; what < 4; what++) {
                Due.due("7: word(" + w + ", " + what + ")", x.word(w, what), told[w][what]);
            }
        }
        int[][] bad = {{-1, 0}, {4, 0}, {0, -1}, {0, 4}, {Integer.MAX_VALUE, 3}, {Integer.MIN_VALUE, 0}};
        for (int[] b : bad) {
            Due.due("7: word(" + b[0] + ", " + b[1] + ")", x.word(b[0], b[1]), BAD);
        }
        Due.due("7: say", x.say(9, 5, 7), 5);
        Due.due("7: word(4, 2)", x.word(4, 2), 7);
    }
}
