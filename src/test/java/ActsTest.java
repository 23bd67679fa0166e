/** Promises 12 to 15: go, snow, say, undo. */
public final class ActsTest {
    private static final int BAD = EchoPaysRent.BAD, NO = EchoPaysRent.NO, FULL = EchoPaysRent.FULL;

    private ActsTest() {
    }

    public static void main(String[] args) {
        go();
        snow();
        say();
        undoOfEach();
        undoOfNothingElse();
        undoTheLastEight();
        badChangesNothing();
        Due.finish("ActsTest");
    }

    private static void go() {
        EchoPaysRent x = Due.laid("w0,3,60;s4;h5;");
        Due.due("12: go(0, 40)", x.go(0, 40), 4);
        Due.due("12: go(1, 0)", x.go(1, 0), 5);
        Due.due("12: the SPEAKER", x.count(2), 40);
        Due.due("12: the HEARER", x.count(3), 0);
        Due.due("12: heard(0, 40)", x.heard(0, 40), 3);
        Due.due("12: go(0, 40) again", x.go(0, 40), 40);
        Due.due("12: go(1, 40)", x.go(1, 40), 0);
        Due.due("12: heard(0, 40) still", x.heard(0, 40), 3);
        Due.due("12: go(0, 0)", x.go(0, 0), 40);
    }

    private static void snow() {
        EchoPaysRent x = Due.laid("f1,0,0;f2,0,0;f3,0,0;f4,0,0;w0,3,60;");
        Due.due("13: snow(5)", x.snow(5), 0);
        Due.due("13: snow(15)", x.snow(15), 5);
        Due.due("13: snow(8): as it is told, not more", x.snow(8), 15);
        Due.due("13: face(0, 3)", x.face(0, 3), 0);
        Due.due("13: face(3, 3)", x.face(3, 3), 1);
        Due.due("13: snow(8) again", x.snow(8), 8);
        Due.due("13: snow(16)", x.snow(16), BAD);
        Due.due("13: snow(-1)", x.snow(-1), BAD);
        Due.due("13: snow(MIN)", x.snow(Integer.MIN_VALUE), BAD);
        Due.due("13: snow(0)", x.snow(0), 8);
        EchoPaysRent none = Due.laid("w0,3,60;");
        Due.due("13: snow(0) without CLIFFS", none.snow(0), 0);
        Due.due("13: snow(1) without CLIFFS", none.snow(1), BAD);
        Due.due("13: snow(2) on one", new EchoPaysRent().snow(2), BAD);
    }

    private static void say() {
        EchoPaysRent x = Due.laid("w0,3,60;");
        Due.due("14: say(30, 7, 60)", x.say(30, 7, 60), 2);
        Due.due("14: say(0, 1, 1)", x.say(0, 1, 1), 3);
        Due.due("14: heard(0, 30)", x.heard(0, 30), 7);
        Due.due("14: word(1, 0)", x.word(1, 0), 30);
        Due.due("14: word(1, 1)", x.word(1, 1), 7);
        Due.due("14: word(1, 2)", x.word(1, 2), 60);
        Due.due("14: word(2, 0)", x.word(2, 0), 0);
        int[][] bad = {{-1, 1, 1}, {31, 1, 1}, {0, 0, 1}, {0, 8, 1}, {0, 1, 0}, {0, 1, 61}};
        for (int[] b : bad) {
            Due.due("14: say(" + b[0] + ", " + b[1] + ", " + b[2] + ")", x.say(b[0], b[1], b[2]), BAD);
        }
        for (int words = 4; words <= 8; words++) {
            Due.due("14: say(1, 1, 1)", x.say(1, 1, 1), words);
        }
        Due.due("14: the ninth", x.say(1, 1, 1), FULL);
        Due.due("14: BAD before FULL", x.say(1, 1, 0), BAD);
        Due.due("14: how many", x.count(1), 8);
        Due.due("14: UNDONE can be", x.count(7), 7);
        Due.due("14: undo()", x.undo(), 6);
        Due.due("14: say(2, 2, 2)", x.say(2, 2, 2), 8);
    }

    private static void undoOfEach() {
        EchoPaysRent x = Due.laid("f1,0,0;f2,0,0;w0,3,60;s4;h5;");
        Due.due("15: undo() at first", x.undo(), NO);
        x.go(0, 14);
        x.go(1, 15);
        x.snow(1);
        x.snow(2);
        x.say(9, 5, 20);
        Due.due("15: undo() of say", x.undo(), 4);
        Due.due("15: the WORDS", x.count(1), 1);
        Due.due("15: word(1, 0)", x.word(1, 0), BAD);
        Due.due("15: undo() of snow", x.undo(), 3);
        Due.due("15: face(0, 3)", x.face(0, 3), 1);
        Due.due("15: face(1, 3)", x.face(1, 3), 0);
        Due.due("15: undo() of snow", x.undo(), 2);
        Due.due("15: face(0, 3)", x.face(0, 3), 0);
        Due.due("15: undo() of go", x.undo(), 1);
        Due.due("15: the HEARER", x.count(3), 5);
        Due.due("15: the SPEAKER", x.count(2), 14);
        Due.due("15: undo() of go", x.undo(), 0);
        Due.due("15: the SPEAKER", x.count(2), 4);
        Due.due("15: undo() of nothing", x.undo(), NO);
        Due.due("15: count(7)", x.count(7), 0);
    }

    /** What becomes nothing other counts; TALK, EARS, THE TEXT and keep do not. */
    private static void undoOfNothingElse() {
        EchoPaysRent x = new EchoPaysRent();
        x.go(0, 0);
        x.go(1, 10);
        x.snow(0);
        Due.due("15: count(7)", x.count(7), 3);
        x.talk(1);
        x.noTalk();
        x.talk(2);
        x.ear(1, 1, 1);
        x.noEars();
        x.ear(2, 2, 2);
        x.write(1, 1);
        x.wipe();
        x.write(2, 1);
        x.keep();
        Due.due("15: count(7) still", x.count(7), 3);
        x.go(0, 5);
        Due.due("15: undo()", x.undo(), 3);
        Due.due("15: undo()", x.undo(), 2);
        Due.due("15: undo()", x.undo(), 1);
        Due.due("15: undo()", x.undo(), 0);
        Due.due("15: the TALK stays", x.count(5), 1);
        Due.due("15: EARS stay", x.count(6), 1);
        Due.due("15: KEPT stays", x.count(8), 1);
        Due.due("15: THE TEXT stays", x.count(9), 2);
    }

    private static void undoTheLastEight() {
        EchoPaysRent x = new EchoPaysRent();
        for (int yard = 1; yard <= 20; yard++) {
            Due.due("15: go(0, " + yard + ")", x.go(0, yard), yard - 1);
            Due.due("15: count(7)", x.count(7), Math.min(8, yard));
        }
        for (int left = 7; left >= 0; left--) {
            Due.due("15: undo()", x.undo(), left);
            Due.due("15: the SPEAKER", x.count(2), 12 + left);
        }
        Due.due("15: no more", x.undo(), NO);
        Due.due("15: the SPEAKER", x.count(2), 12);
        x.go(0, 30);
        Due.due("15: and again", x.undo(), 0);
        Due.due("15: the SPEAKER", x.count(2), 12);
    }

    private static void badChangesNothing() {
        EchoPaysRent x = new EchoPaysRent();
        int[][] bad = {{-1, 1}, {2, 1}, {0, -1}, {0, 41}, {1, 41}, {1, Integer.MIN_VALUE}, {Integer.MAX_VALUE, 0}};
        for (int[] b : bad) {
            Due.due("12: go(" + b[0] + ", " + b[1] + ")", x.go(b[0], b[1]), BAD);
        }
        x.snow(2);
        x.say(0, 0, 0);
        Due.due("12: the SPEAKER", x.count(2), 0);
        Due.due("12: the HEARER", x.count(3), 10);
        Due.due("13: face(0, 3)", x.face(0, 3), 0);
        Due.due("14: the WORDS", x.count(1), 2);
        Due.due("15: count(7)", x.count(7), 0);
        Due.due("15: undo()", x.undo(), NO);
    }
}
