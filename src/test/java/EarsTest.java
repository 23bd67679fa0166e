/** Promises 23 to 30: ear, noEars, stood, moved, evening, keep, back, count. */
public final class EarsTest {
    private static final int BAD = EchoPaysRent.BAD, NO = EchoPaysRent.NO;
    private static final int FULL = EchoPaysRent.FULL, NONE = EchoPaysRent.NONE;

    private EarsTest() {
    }

    public static void main(String[] args) {
        ears();
        stood();
        stoodByManyEars();
        moved();
        evening();
        eveningBad();
        keepAndBack();
        backOnlyTheseThings();
        backBringsWordsAgain();
        count();
        Due.finish("EarsTest");
    }

    private static void ears() {
        EchoPaysRent x = new EchoPaysRent();
        Due.due("24: noEars() at first", x.noEars(), 0);
        int[][] bad = {{-1, 0, 0}, {41, 0, 0}, {0, -1, 0}, {0, 150, 0}, {0, 0, -1}, {0, 0, 9},
            {Integer.MIN_VALUE, 0, 0}, {0, Integer.MAX_VALUE, 0}, {0, 0, Integer.MIN_VALUE}};
        for (int[] b : bad) {
            Due.due("23: ear(" + b[0] + ", " + b[1] + ", " + b[2] + ")", x.ear(b[0], b[1], b[2]), BAD);
        }
        Due.due("23: count(6)", x.count(6), 0);
        Due.due("23: ear(40, 149, 8)", x.ear(40, 149, 8), 1);
        for (int ears = 2; ears <= 9; ears++) {
            Due.due("23: ear(0, 0, 0)", x.ear(0, 0, 0), ears);
        }
        Due.due("23: the tenth", x.ear(0, 0, 0), FULL);
        Due.due("23: BAD before FULL", x.ear(0, 0, 9), BAD);
        Due.due("23: count(6)", x.count(6), 9);
        Due.due("24: noEars()", x.noEars(), 9);
        Due.due("24: noEars() again", x.noEars(), 0);
        Due.due("24: stood(0)", x.stood(0), 41);
        Due.due("23: ear(1, 1, 1)", x.ear(1, 1, 1), 1);
    }

    private static void stood(EchoPaysRent x, int yards, int lowest) {
        Due.due("25: stood(0)", x.stood(0), yards);
        Due.due("25: stood(1)", x.stood(1), lowest);
    }

    private static void stood() {
        EchoPaysRent x = Due.laid("w0,1,10;s3;h4;");
        stood(x, 41, 0);
        // heard at 20 at beat 5: from 15 and from 25
        x.ear(20, 5, 1);
        stood(x, 2, 15);
        x.ear(40, 15, 0);
        stood(x, 2, 15);
        // and from 25 alone at 27
        x.ear(27, 2, 1);
        stood(x, 1, 25);
        x.ear(27, 3, 1);
        stood(x, 0, NONE);
        Due.due("25: the SPEAKER stays", x.count(2), 3);
        Due.due("25: stood(2)", x.stood(2), BAD);
        Due.due("25: stood(-1)", x.stood(-1), BAD);
        Due.due("25: stood(MIN)", x.stood(Integer.MIN_VALUE), BAD);
        x.noEars();
        x.ear(40, 0, 1);
        stood(x, 1, 40);
        x.noEars();
        x.ear(20, 9, 1);
        stood(x, 2, 11);
        x.noEars();
        // as LOUD as 10 it does not come 10 yards far
        x.ear(20, 10, 1);
        stood(x, 0, NONE);
        x.noEars();
        x.ear(20, 10, 0);
        stood(x, 41, 0);
    }

    private static void stoodByManyEars() {
        EchoPaysRent x = Due.laid("w0,1,60;w0,2,60;w3,4,60;f30,1,0;s3;");
        // a BLUR at 0 from its own yard
        x.ear(7, 0, 8);
        stood(x, 1, 7);
        x.ear(7, 3, 4);
        x.ear(7, 46, 8);
        x.ear(7, 49, 4);
        stood(x, 1, 7);
        x.ear(7, 49, 0);
        stood(x, 0, NONE);
        x.noEars();
        x.ear(7, 46, 8);
        x.snow(1);
        stood(x, 0, NONE);
    }

    private static void moved() {
        EchoPaysRent x = Due.laid("w0,1,60;s10;h10;f20,0,0;f0,5,2;");
        Due.due("26: moved() without EARS", x.moved(), 0);
        // BACK 6 beats later: CLIFF 0 at 7 or 13, or CLIFF 1 (LATE) at 8 or 12
        x.ear(10, 6, 1);
        Due.due("26: moved()", x.moved(), 7);
        // CLIFF 0 as it is: then it is the other
        x.ear(10, 20, 1);
        Due.due("26: moved() of the other one", x.moved(), 108);
        x.ear(40, 36, 1);
        Due.due("26: behind the SPEAKER", x.moved(), 108);
        // from 10 by 8 to 4: 6 yards and 2 beats
        x.ear(4, 8, 0);
        Due.due("26: none", x.moved(), NONE);
        x.noEars();
        // as it is heard by CLIFF 1 where it is and CLIFF 0 at any yard
        x.ear(10, 22, 1);
        Due.due("26: moved()", x.moved(), 0);
        // the CLIFF's own yard does not count: what is heard now only by it there
        x.noEars();
        x.ear(10, 20, 1);
        Due.due("26: unlike where it is", x.moved(), 0);
        x.ear(0, 30, 1);
        Due.due("26: it has to be at 20 and the other one may move", x.moved(), 100 + 1);
        Due.due("26: the CLIFF stays", x.face(0, 0), 20);
        Due.due("26: moved() without CLIFFS", Due.laid("w0,1,1;").moved(), NONE);
        EchoPaysRent zero = Due.laid("w0,1,1;f0,1,1;");
        Due.due("26: from 0 the lowest is 1", zero.moved(), 1);
        zero.snow(1);
        Due.due("26: with SNOW on it", zero.moved(), 1);
        zero.ear(0, 0, 2);
        Due.due("26: EARS that hear unlike ones", zero.moved(), NONE);
        EchoPaysRent last = Due.laid("w0,1,60;s20;f20,0,0;f0,5,2;f20,0,0;f20,0,0;");
        last.snow(7);
        // by 40 it is 30 yards, by 10 too; the other EAR by 40 or 18
        last.ear(30, 30, 1);
        last.ear(38, 22, 1);
        Due.due("26: the last CLIFF at the last yard", last.moved(), 340);
    }

    private static void evening(String text, int... due) {
        EchoPaysRent x = Due.laid(text);
        for (int z = 0; z < due.length; z++) {
            Due.due("27: evening(" + z + ") of " + text, x.evening(z), due[z]);
        }
        Due.due("27: the WORDS stay", x.count(1), text.length() - text.replace("w", "").length());
    }

    private static void evening() {
        // z 9, k 0: x is 71272, q 51417: a heckler at 2448 modulo 41, 29, says 17139 modulo 7 and 1, 4
        Due.due("27: as LOUD, a BLUR", Due.laid("w0,1,50;s29;h35;").evening(9), 0);
        Due.due("27: from the other side", Due.laid("w3,1,50;s29;h23;").evening(9), 0);
        Due.due("27: a like one", Due.laid("w0,4,50;s29;h35;").evening(9), 1);
        Due.due("27: a beat earlier", Due.laid("w0,1,50;s28;h35;").evening(9), 1);
        // his comes BACK by 32 at 6, as LOUD as 44, and masks the second WORD
        Due.due("27: BACK as well", Due.laid("w0,1,50;w5,2,20;s28;h29;f32,0,0;").evening(9), 1);
        Due.due("27: BACK, too weak", Due.laid("w0,1,50;w5,2,46;s28;h29;f32,0,0;").evening(9), 2);
        // the SPEAKER at the heckler's own yard: unlike ones are a BLUR, like ones are not
        for (int z = 0; z < 300; z++) {
            long x = 7919L * z + 1;
            int q = (int) (x * x % 65521);
            int yard = q / 21 % 41;
            int value = q / 3 % 7 + 1;
            for (int v = 1; v <= 7 && q % 3 == 0; v++) {
                String text = "w0," + v + ",60;s" + yard + ";h20;";
                Due.due("27: evening(" + z + ") of " + text, Due.laid(text).evening(z), v == value ? 1 : 0);
            }
        }
        // each WORD's heckler is only as LOUD as it and may spoil another one
        evening("w0,1,50;w10,2,50;h40;", eveningsOf(new int[][] {{0, 1, 50}, {10, 2, 50}}, 40));
        evening("w0,3,60;w9,4,59;w20,5,58;h0;", eveningsOf(new int[][] {{0, 3, 60}, {9, 4, 59}, {20, 5, 58}}, 0));
        Due.due("27: none comes", Due.laid("w0,1,10;").evening(9999), 0);
    }

    /** Without CLIFFS, WORDS far from each other: the SPEAKER at 0, hecklers at the WORDS' own beats. */
    private static int[] eveningsOf(int[][] words, int hearer) {
        int[] due = new int[60];
        for (int z = 0; z < due.length; z++) {
            for (int w = 0; w < words.length; w++) {
                boolean spoilt = false;
                for (int k = 0; k < words.length; k++) {
                    long x = 7919L * z + 6151L * k + 1;
                    int q = (int) (x * x % 65521);
                    int far = Math.abs(q / 21 % 41 - hearer);
                    boolean meets = words[k][0] + far == words[w][0] + hearer;
                    boolean asLoud = words[k][2] - far >= words[w][2] - hearer;
                    boolean unlike = q / 3 % 7 + 1 != words[w][1];
                    spoilt |= q % 3 == 0 && meets && asLoud && unlike;
                }
                due[z] += spoilt ? 0 : 1;
            }
        }
        return due;
    }

    private static void eveningBad() {
        EchoPaysRent x = new EchoPaysRent();
        for (int z : new int[] {-1, 10000, Integer.MIN_VALUE, Integer.MAX_VALUE}) {
            Due.due("27: evening(" + z + ")", x.evening(z), BAD);
        }
        Due.due("27: evening(9999)", x.evening(9999), 2);
        Due.due("27: evening(0)", x.evening(0), 2);
    }

    private static void keepAndBack() {
        EchoPaysRent x = Due.laid("f1,2,0;f3,4,1;w0,3,60;s4;h5;a2;");
        Due.due("29: back() at first", x.back(), NO);
        x.go(0, 14);
        Due.due("28: keep()", x.keep(), 1);
        x.go(1, 15);
        x.snow(2);
        Due.due("28: keep()", x.keep(), 2);
        Due.due("28: the third", x.keep(), FULL);
        Due.due("28: count(8)", x.count(8), 2);
        Due.due("28: UNDONE can be as before", x.count(7), 3);
        x.go(0, 33);
        x.snow(3);
        x.say(1, 1, 1);
        Due.due("29: back()", x.back(), 1);
        Due.due("29: the SPEAKER", x.count(2), 14);
        Due.due("29: the HEARER", x.count(3), 15);
        Due.due("29: the WORDS", x.count(1), 1);
        Due.due("29: SNOW on 0", x.face(0, 3), 0);
        Due.due("29: SNOW on 1", x.face(1, 3), 1);
        Due.due("29: nothing can be UNDONE", x.count(7), 0);
        Due.due("29: undo()", x.undo(), NO);
        Due.due("29: back() to the first", x.back(), 0);
        Due.due("29: the HEARER", x.count(3), 5);
        Due.due("29: the SPEAKER", x.count(2), 14);
        Due.due("29: SNOW on 1", x.face(1, 3), 0);
        Due.due("29: back() to none", x.back(), NO);
        Due.due("28: and again", x.keep(), 1);
        x.go(0, 1);
        x.undo();
        Due.due("28: an undo does not matter", x.count(8), 1);
        Due.due("29: back()", x.back(), 0);
        Due.due("29: the SPEAKER", x.count(2), 14);
    }

    private static void backOnlyTheseThings() {
        EchoPaysRent x = Due.withText("s9;");
        x.talk(1);
        x.ear(1, 1, 1);
        x.keep();
        x.talk(2);
        x.ear(1, 1, 1);
        x.wipe();
        Due.due("29: back()", x.back(), 0);
        Due.due("29: THE TEXT is as it is", x.count(9), 0);
        Due.due("29: the TALK is as it is", x.count(5), 2);
        Due.due("29: EARS are as they are", x.count(6), 2);
    }

    private static void backBringsWordsAgain() {
        EchoPaysRent x = Due.laid("w0,3,60;");
        x.say(1, 1, 1);
        x.keep();
        x.undo();
        x.say(2, 2, 2);
        x.say(3, 3, 3);
        Due.due("29: back()", x.back(), 0);
        Due.due("29: count(1)", x.count(1), 2);
        Due.due("29: word(1, 0)", x.word(1, 0), 1);
        Due.due("29: word(1, 2)", x.word(1, 2), 1);
    }

    private static void count() {
        EchoPaysRent x = Due.laid("f1,2,0;f3,4,1;f5,6,2;w0,3,60;w1,3,60;s4;h5;a2;");
        x.go(1, 6);
        x.snow(1);
        x.say(1, 1, 1);
        x.say(1, 1, 1);
        x.talk(1);
        x.ear(1, 1, 1);
        x.ear(1, 1, 1);
        x.keep();
        x.write(3, 0);
        int[] counts = {3, 4, 4, 6, 2, 1, 2, 4, 1, 49};
        for (int what = 0; what < counts.length; what++) {
            Due.due("30: count(" + what + ")", x.count(what), counts[what]);
        }
        for (int what : new int[] {-1, 10, Integer.MIN_VALUE, Integer.MAX_VALUE}) {
            Due.due("30: count(" + what + ")", x.count(what), BAD);
        }
    }
}
