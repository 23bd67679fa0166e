/** EARS, STOOD, MOVED, an EVENING, KEPT, and promises 23 to 30: each sentence that names a bound. */
public final class EarsBoundsTest {
    private static final int BAD = EchoPaysRent.BAD, NO = EchoPaysRent.NO;
    private static final int FULL = EchoPaysRent.FULL, NONE = EchoPaysRent.NONE;

    private EarsBoundsTest() {
    }

    public static void main(String[] args) {
        earTheEnds();
        earTheLastThatFits();
        earBadBeforeFull();
        noEarsOfNoneAndNine();
        stoodWhat();
        stoodWithoutEars();
        stoodAtTheEnds();
        stoodOfNone();
        stoodByEachThatIsHeard();
        stoodAsThingsStand();
        movedWithoutCliffs();
        movedWithoutEars();
        movedUnlikeWhereItIs();
        movedAtTheEnds();
        movedOfSeveralTheLowest();
        movedOfNone();
        movedWhileTheSpeakerStands();
        eveningTheEnds();
        eveningOfTheLastNumbers();
        eveningOfNoneAndAll();
        keepTwo();
        keepChangesNothingElse();
        backOfNothing();
        backTheLastFirst();
        backUndoesNothingThen();
        backNotTheText();
        backOfAllThese();
        countWhat();
        countTheMost();
        Due.finish("EarsBoundsTest");
    }

    // ---- 23, 24

    private static void earTheEnds() {
        Due.ends("23: ear(y, 5, 5)", 0, 40, y -> new EchoPaysRent().ear(y, 5, 5));
        Due.ends("23: ear(5, b, 5)", 0, 149, b -> new EchoPaysRent().ear(5, b, 5));
        Due.ends("23: ear(5, 5, c)", 0, 8, c -> new EchoPaysRent().ear(5, 5, c));
        EchoPaysRent x = new EchoPaysRent();
        Due.due("23: all are none", x.ear(41, 150, 9), BAD);
        Due.due("23: all are far off", x.ear(Integer.MIN_VALUE, Integer.MAX_VALUE, Integer.MIN_VALUE), BAD);
        Due.due("23: none came", x.count(6), 0);
        Due.due("23: the least", x.ear(0, 0, 0), 1);
        Due.due("23: the greatest", x.ear(40, 149, 8), 2);
    }

    private static void earTheLastThatFits() {
        EchoPaysRent x = Due.laid("w0,1,60;");
        for (int many = 1; many <= 9; many++) {
            Due.due("23: ear(" + many + ", " + many + ", 1)", x.ear(many, many, 1), many);
        }
        Due.due("23: the tenth", x.ear(40, 1, 1), FULL);
        Due.due("23: the tenth again", x.ear(0, 0, 0), FULL);
        Due.due("23: they are nine still", x.count(6), 9);
        Due.due("23: the tenth hears nothing", x.stood(1), 0);
    }

    private static void earBadBeforeFull() {
        EchoPaysRent x = new EchoPaysRent();
        for (int many = 1; many <= 9; many++) {
            x.ear(many, many, 1);
        }
        int[][] bad = {{-1, 0, 0}, {41, 0, 0}, {0, -1, 0}, {0, 150, 0}, {0, 0, -1}, {0, 0, 9}};
        for (int[] b : bad) {
            Due.due("23: ear(" + b[0] + ", " + b[1] + ", " + b[2] + ") by nine", x.ear(b[0], b[1], b[2]), BAD);
        }
        Due.due("23: they are nine still", x.count(6), 9);
    }

    private static void noEarsOfNoneAndNine() {
        EchoPaysRent x = new EchoPaysRent();
        Due.due("24: of none", x.noEars(), 0);
        Due.due("24: of none again", x.noEars(), 0);
        for (int many = 1; many <= 9; many++) {
            for (int i = 1; i <= many; i++) {
                Due.due("23: there is room again", x.ear(i, i, 7), i);
            }
            Due.due("25: none stands so", x.stood(0), 0);
            Due.due("24: of " + many, x.noEars(), many);
            Due.due("25: all stand so", x.stood(0), 41);
        }
        Due.due("24: of none then", x.noEars(), 0);
    }

    // ---- 25

    private static void stood(EchoPaysRent x, int yards, int lowest) {
        Due.due("25: stood(0)", x.stood(0), yards);
        Due.due("25: stood(1)", x.stood(1), lowest);
    }

    private static EchoPaysRent withEars(String text, int... ears) {
        EchoPaysRent x = Due.laid(text);
        for (int i = 0; i < ears.length; i += 3) {
            Due.due("23: an EAR", x.ear(ears[i], ears[i + 1], ears[i + 2]), i / 3 + 1);
        }
        return x;
    }

    private static void stoodWhat() {
        EchoPaysRent x = new EchoPaysRent();
        Due.ends("25: stood(what)", 0, 1, what -> x.stood(what));
        EchoPaysRent none = withEars("w0,1,1;", 0, 149, 1);
        Due.ends("25: stood(what) of none: BAD before NONE", 0, 1, what -> none.stood(what));
    }

    private static void stoodWithoutEars() {
        stood(new EchoPaysRent(), 41, 0);
        stood(Due.laid("w0,1,1;s40;"), 41, 0);
        stood(withEars("w0,1,60;s40;", 0, 149, 0), 41, 0);
    }

    private static void stoodAtTheEnds() {
        stood(withEars("w0,1,60;s20;", 0, 0, 1), 1, 0);
        stood(withEars("w0,1,60;s20;", 40, 0, 1), 1, 40);
        stood(withEars("w0,1,60;s20;", 0, 40, 1), 1, 40);
        stood(withEars("w0,1,60;s20;", 40, 40, 1), 1, 0);
        stood(withEars("w0,1,60;s20;", 20, 20, 1), 2, 0);
        stood(withEars("w0,1,60;s20;", 20, 0, 0), 40, 0);
        stood(withEars("w0,1,60;s20;", 0, 0, 0), 40, 1);
        stood(withEars("w0,1,60;s20;", 0, 0, 0, 1, 0, 0), 39, 2);
    }

    private static void stoodOfNone() {
        stood(withEars("w0,1,60;s20;", 0, 41, 1), 0, NONE);
        stood(withEars("w0,1,60;s20;", 0, 0, 2), 0, NONE);
        stood(withEars("w0,1,60;s20;", 0, 0, 8), 0, NONE);
        stood(withEars("w0,1,60;s20;", 5, 5, 1, 5, 5, 0), 0, NONE);
        stood(withEars("w0,1,5;s20;", 10, 5, 1), 0, NONE);
        stood(withEars("w0,1,6;s20;", 10, 5, 1), 2, 5);
    }

    private static void stoodByEachThatIsHeard() {
        for (int v = 1; v <= 7; v++) {
            stood(withEars("w0," + v + ",60;", 7, 0, v), 1, 7);
        }
        stood(withEars("w0,1,60;w0,2,60;", 7, 0, 8), 1, 7);
        stood(withEars("w0,1,60;w0,2,60;", 7, 0, 0), 40, 0);
        // all nine have to be right, the last one too
        int[] nine = new int[27];
        for (int e = 0; e < 9; e++) {
            nine[3 * e] = 12 + e;
            nine[3 * e + 1] = e;
            nine[3 * e + 2] = 1;
        }
        stood(withEars("w0,1,60;", nine), 1, 12);
        nine[26] = 0;
        stood(withEars("w0,1,60;", nine), 0, NONE);
        nine[26] = 1;
        nine[2] = 2;
        stood(withEars("w0,1,60;", nine), 0, NONE);
    }

    private static void stoodAsThingsStand() {
        EchoPaysRent x = withEars("w0,1,60;f7,0,2;", 7, 2, 1);
        stood(x, 3, 5);
        x.snow(1);
        stood(x, 2, 5);
        x.say(0, 2, 60);
        stood(x, 0, NONE);
        x.undo();
        x.undo();
        stood(x, 3, 5);
        x.go(0, 30);
        x.go(1, 30);
        stood(x, 3, 5);
        Due.due("25: the SPEAKER stays", x.count(2), 30);
    }

    // ---- 26

    private static void movedWithoutCliffs() {
        Due.due("26: without CLIFFS and EARS", Due.laid("w0,1,60;").moved(), NONE);
        Due.due("26: without CLIFFS", withEars("w0,1,60;", 0, 0, 1).moved(), NONE);
    }

    private static void movedWithoutEars() {
        Due.due("26: from 20", new EchoPaysRent().moved(), 0);
        Due.due("26: from 40", Due.laid("f40,0,0;w0,1,60;").moved(), 0);
        Due.due("26: from 0", Due.laid("f0,0,0;w0,1,60;").moved(), 1);
        Due.due("26: the first of four", Due.laid("f0,0,0;".repeat(4) + "w0,1,60;").moved(), 1);
    }

    /** All is heard as it stands, and only so: it stays where it is, and then it is not MOVED. */
    private static void movedUnlikeWhereItIs() {
        Due.due("26: only where it is", withEars("f40,0,0;w0,1,60;s20;", 20, 40, 1).moved(), 0);
        Due.due("26: only where it is", withEars("f39,0,0;w0,1,60;s19;", 19, 40, 1).moved(), NONE);
        Due.due("26: the other one too", withEars("f39,0,0;f1,9,0;w0,1,60;s19;", 19, 40, 1).moved(), 100);
        Due.due("26: from 1", withEars("f1,9,3;w0,1,60;s19;", 19, 2, 0).moved(), 0);
    }

    private static void movedAtTheEnds() {
        // 10 yards off by the CLIFF: at 0 from 10, at 40 from 30
        Due.due("26: to 0", withEars("f25,0,0;w0,1,60;s10;", 0, 10, 1, 10, 20, 1).moved(), 0);
        Due.due("26: to 40", withEars("f25,0,0;w0,1,60;s30;", 30, 20, 1, 40, 10, 1, 20, 10, 1, 20, 30, 1).moved(), 40);
        Due.due("26: not to 41", withEars("f25,0,0;w0,1,60;s30;", 20, 32, 1, 30, 22, 1).moved(), NONE);
        EchoPaysRent last = withEars("f25,0,0;".repeat(4) + "w0,1,60;s30;", 20, 30, 1, 30, 20, 1);
        Due.due("26: the first of four to 40", last.moved(), 40);
        Due.due("12: SNOW on the others", last.snow(7), 0);
        Due.due("26: the last alone to 40", last.moved(), 340);
    }

    private static void movedOfSeveralTheLowest() {
        Due.due("26: the lowest yard", withEars("f25,0,0;w0,1,60;s20;", 20, 10, 1).moved(), 15);
        Due.due("26: the lowest it is not at", withEars("f15,0,0;w0,1,60;s20;", 20, 10, 1).moved(), 25);
        Due.due("26: the lowest CLIFF", withEars("f25,0,0;f5,0,2;w0,1,60;s20;", 20, 10, 1).moved(), 15);
        // the first is LATE: 4 yards to 16, there and back, and 2 beats; the second would be at a lower yard, 15
        Due.due("26: the CLIFF before the yard", withEars("f5,0,2;f26,0,0;w0,1,60;s20;", 20, 10, 1).moved(), 16);
        EchoPaysRent x = withEars("f5,0,2;f26,0,0;w0,1,60;s20;", 20, 10, 1);
        x.snow(1);
        Due.due("26: the first one is silent", x.moved(), 115);
    }

    private static void movedOfNone() {
        Due.due("26: too late", withEars("f25,0,0;w0,1,60;s20;", 20, 41, 1).moved(), NONE);
        Due.due("26: odd", withEars("f25,0,0;w0,1,60;s20;", 20, 11, 1).moved(), NONE);
        Due.due("26: another V", withEars("f25,0,0;w0,1,60;s20;", 20, 10, 2).moved(), NONE);
        Due.due("26: DIRECT anyhow", withEars("f25,0,0;w0,1,60;s20;", 20, 0, 0).moved(), NONE);
        EchoPaysRent x = withEars("f25,0,0;w0,1,60;s20;", 20, 10, 1);
        x.snow(1);
        Due.due("26: with SNOW nothing comes BACK", x.moved(), NONE);
    }

    private static void movedWhileTheSpeakerStands() {
        EchoPaysRent x = withEars("f25,0,0;w0,1,60;s20;", 0, 10, 1);
        Due.due("26: he stands too far off", x.moved(), NONE);
        Due.due("25: he could stand nearer", x.stood(1), 10);
        x.go(0, 10);
        Due.due("26: heard DIRECT", x.moved(), 0);
        Due.due("26: the CLIFF stays", x.face(0, 0), 25);
        Due.due("26: the SPEAKER stays", x.count(2), 10);
        Due.due("26: nothing to be UNDONE but this", x.count(7), 1);
    }

    // ---- 27

    private static void eveningTheEnds() {
        EchoPaysRent x = new EchoPaysRent();
        Due.ends("27: evening(z)", 0, 9999, z -> x.evening(z));
    }

    /** The q of WORD k, reckoned bit by bit. */
    private static int q(int z, int k) {
        int x = (int) ((7919L * z + 6151L * k + 1) % 65521);
        long sum = 0;
        for (int bit = 16; bit >= 0; bit--) {
            sum = (2 * sum + (x >> bit & 1) * x) % 65521;
        }
        return (int) sum;
    }

    /** The heckler of WORD 7 of evening 9999, and of others at the ends, spoils a WORD said where he stands. */
    private static void eveningOfTheLastNumbers() {
        int spoilt = 0;
        for (int z : new int[] {0, 1, 2, 3, 9996, 9997, 9998, 9999}) {
            for (int k = 0; k < 8; k++) {
                int q = q(z, k);
                int yard = q / 21 % 41;
                int v = q / 3 % 7 + 1;
                // the others are as weak as can be, and no heckler of theirs is louder than they are
                String others = "w" + k + "," + (v % 7 + 1) + ",1;";
                String text = others.repeat(k) + "w20," + (v % 7 + 1) + ",60;s" + yard + ";h" + yard + ";";
                int due = k + 1 - (q % 3 == 0 ? 1 : 0) - weakSpoilt(z, k, yard, v % 7 + 1);
                Due.due("27: evening(" + z + ") of " + text, Due.laid(text).evening(z), due);
                String like = text.replace("w20," + (v % 7 + 1), "w20," + v);
                Due.due("27: evening(" + z + ") of " + like, Due.laid(like).evening(z), due + (q % 3 == 0 ? 1 : 0));
                spoilt += q % 3 == 0 ? 1 : 0;
            }
        }
        Due.due("27: some are spoilt", spoilt > 8 ? 1 : 0, 1);
    }

    /** Weak ones reach only the yard they are said at: all k of them are a BLUR if one heckler stands there. */
    private static int weakSpoilt(int z, int k, int yard, int v) {
        for (int i = 0; i < k; i++) {
            int q = q(z, i);
            if (q % 3 == 0 && q / 21 % 41 == yard && q / 3 % 7 + 1 != v) {
                return k;
            }
        }
        return 0;
    }

    private static void eveningOfNoneAndAll() {
        Due.due("27: q of evening 0 is 1: no heckler", Due.laid("w0,1,1;h0;").evening(0), 1);
        Due.due("27: none comes", Due.laid("w0,1,1;h1;").evening(0), 0);
        Due.due("27: none comes to be spoilt", Due.laid("w0,1,1;h1;").evening(9), 0);
        // a heckler's own WORD does not count as CLEAR
        EchoPaysRent x = Due.laid("w0,4,50;s40;h29;a9;");
        Due.due("27: his own alone", x.evening(9), 0);
        x.go(0, 29);
        Due.due("27: his own and the SPEAKER's", x.evening(9), 1);
        Due.due("27: the WORDS stay", x.count(1), 1);
    }

    // ---- 28

    private static void keepTwo() {
        EchoPaysRent x = new EchoPaysRent();
        Due.due("28: one", x.keep(), 1);
        Due.due("28: the second", x.keep(), 2);
        Due.due("28: the third", x.keep(), FULL);
        Due.due("28: the third again", x.keep(), FULL);
        Due.due("28: two are KEPT still", x.count(8), 2);
        Due.due("29: back()", x.back(), 1);
        Due.due("28: there is room again", x.keep(), 2);
        Due.due("28: for one", x.keep(), FULL);
    }

    private static void keepChangesNothingElse() {
        EchoPaysRent x = new EchoPaysRent();
        x.go(0, 1);
        x.go(0, 2);
        x.keep();
        x.go(0, 3);
        x.keep();
        x.go(0, 4);
        Due.due("28: FULL", x.keep(), FULL);
        Due.due("28: UNDONE can be", x.count(7), 4);
        Due.due("15: undo()", x.undo(), 3);
        Due.due("15: undo() beyond the second", x.undo(), 2);
        Due.due("15: undo() beyond the first", x.undo(), 1);
        Due.due("28: two are KEPT still", x.count(8), 2);
        Due.due("28: the SPEAKER", x.count(2), 1);
        // what was FULL took nothing: the second is as it was
        Due.due("29: back()", x.back(), 1);
        Due.due("29: the SPEAKER", x.count(2), 3);
        Due.due("29: back()", x.back(), 0);
        Due.due("29: the SPEAKER", x.count(2), 2);
    }

    // ---- 29

    private static void backOfNothing() {
        EchoPaysRent x = new EchoPaysRent();
        Due.due("29: back() to none", x.back(), NO);
        x.go(0, 1);
        Due.due("29: back() to none", x.back(), NO);
        Due.due("29: what can be UNDONE stays", x.count(7), 1);
        Due.due("29: the SPEAKER stays", x.count(2), 1);
        x.keep();
        Due.due("29: back() to one", x.back(), 0);
        Due.due("29: it is KEPT no more", x.count(8), 0);
        Due.due("29: back() to none", x.back(), NO);
    }

    private static void backTheLastFirst() {
        EchoPaysRent x = new EchoPaysRent();
        x.go(0, 1);
        x.keep();
        x.go(0, 2);
        x.keep();
        x.go(0, 3);
        Due.due("29: back()", x.back(), 1);
        Due.due("29: to the last", x.count(2), 2);
        x.go(0, 4);
        Due.due("28: another second", x.keep(), 2);
        x.go(0, 5);
        Due.due("29: back()", x.back(), 1);
        Due.due("29: to the other second", x.count(2), 4);
        Due.due("29: back()", x.back(), 0);
        Due.due("29: to the first", x.count(2), 1);
    }

    private static void backUndoesNothingThen() {
        EchoPaysRent x = new EchoPaysRent();
        x.keep();
        for (int yard = 1; yard <= 9; yard++) {
            x.go(0, yard);
        }
        Due.due("15: eight can be UNDONE", x.count(7), 8);
        Due.due("29: back()", x.back(), 0);
        Due.due("29: none can be UNDONE", x.count(7), 0);
        Due.due("29: undo()", x.undo(), NO);
        Due.due("29: the SPEAKER", x.count(2), 0);
        x.go(0, 9);
        Due.due("15: undo() of what came then", x.undo(), 0);
        Due.due("15: no more", x.undo(), NO);
    }

    private static void backNotTheText() {
        EchoPaysRent x = Due.withText("w1,1,1;");
        x.keep();
        Due.write(x, "s40;");
        Due.due("29: back()", x.back(), 0);
        Due.due("29: THE TEXT is as it is", x.count(9), 11);
        x.keep();
        x.wipe();
        Due.due("29: back()", x.back(), 0);
        Due.due("29: THE TEXT is as it is", x.count(9), 0);
        Due.due("29: the WORDS are not of THE TEXT", x.count(1), 2);
    }

    private static void backOfAllThese() {
        EchoPaysRent x = Due.laid("f1,2,3;f4,5,0;w6,7,8;s9;h11;a2;");
        x.go(0, 12);
        x.go(1, 13);
        x.snow(2);
        x.say(14, 5, 16);
        x.keep();
        x.go(0, 0);
        x.go(1, 0);
        x.snow(1);
        while (x.count(1) < 8) {
            x.say(0, 1, 60);
        }
        Due.due("29: back()", x.back(), 0);
        int[] counts = {2, 2, 12, 13, 2};
        for (int what = 0; what < counts.length; what++) {
            Due.due("29: count(" + what + ")", x.count(what), counts[what]);
        }
        int[][] words = {{6, 7, 8}, {14, 5, 16}};
        int[][] cliffs = {{1, 2, 3, 0}, {4, 5, 0, 1}};
        for (int i = 0; i < 2; i++) {
            for (int what = 0; what < 4; what++) {
                Due.due("29: face(" + i + ", " + what + ")", x.face(i, what), cliffs[i][what]);
                Due.due("29: word(" + i + ", " + what + ")", what < 3 ? x.word(i, what) : 0, what < 3 ? words[i][what] : 0);
            }
        }
        Due.due("29: the others are gone", x.word(2, 0), BAD);
    }

    // ---- 30

    private static void countWhat() {
        EchoPaysRent x = new EchoPaysRent();
        Due.ends("30: count(what)", 0, 9, what -> x.count(what));
    }

    private static void countTheMost() {
        EchoPaysRent x = Due.withText("f40,9,3;".repeat(4) + "w30,7,60;".repeat(7) + "s40;h40;a9;");
        x.lay();
        for (int i = 0; i < 8; i++) {
            x.go(i % 2, 40);
            x.talk(3);
            x.ear(40, 149, 8);
            x.keep();
        }
        x.ear(0, 0, 0);
        x.say(30, 7, 60);
        while (x.count(9) < 300) {
            x.write(1, -1);
        }
        int[] most = {4, 8, 40, 40, 9, 6, 9, 8, 2, 300};
        for (int what = 0; what < most.length; what++) {
            Due.due("30: the most, count(" + what + ")", x.count(what), most[what]);
        }
        EchoPaysRent least = Due.laid("w0,1,1;h0;");
        least.wipe();
        int[] fewest = {0, 1, 0, 0, 1, 0, 0, 0, 0, 0};
        for (int what = 0; what < fewest.length; what++) {
            Due.due("30: the least, count(" + what + ")", least.count(what), fewest[what]);
        }
    }
}
