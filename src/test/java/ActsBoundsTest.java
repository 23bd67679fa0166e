/** The acts, UNDONE, and promises 12 to 15: each sentence that names a bound. */
public final class ActsBoundsTest {
    private static final int BAD = EchoPaysRent.BAD, NO = EchoPaysRent.NO, FULL = EchoPaysRent.FULL;

    private ActsBoundsTest() {
    }

    public static void main(String[] args) {
        goWhoAndWhere();
        goToTheEnds();
        goToTheSameYard();
        goBadChangesNothing();
        snowOnSuchAsThereAre();
        snowOnEverySet();
        snowAsItIsToldThen();
        snowBadChangesNothing();
        sayTheEnds();
        sayTheLastThatFits();
        sayBadBeforeFull();
        sayAfterUndo();
        sayRefusedChangesNothing();
        undoOfNothing();
        undoTheLastEightOnly();
        undoTheNinthOfEachKind();
        undoWhatBecameNothingOther();
        undoNotWhatWasRefused();
        undoIsNotUndone();
        undoAndAnotherWay();
        undoBehindLayAndBack();
        Due.finish("ActsBoundsTest");
    }

    private static void stands(String when, EchoPaysRent x, int speaker, int hearer, int words, int undone) {
        Due.due(when + ": the SPEAKER", x.count(2), speaker);
        Due.due(when + ": the HEARER", x.count(3), hearer);
        Due.due(when + ": the WORDS", x.count(1), words);
        Due.due(when + ": UNDONE can be", x.count(7), undone);
    }

    // ---- 12

    private static void goWhoAndWhere() {
        EchoPaysRent x = new EchoPaysRent();
        Due.ends("12: go(who, 5)", 0, 1, who -> x.go(who, 5));
        Due.ends("12: go(0, x)", 0, 40, yard -> x.go(0, yard));
        Due.ends("12: go(1, x)", 0, 40, yard -> x.go(1, yard));
        Due.due("12: both are none", x.go(2, 41), BAD);
        Due.due("12: both are far off", x.go(Integer.MIN_VALUE, Integer.MAX_VALUE), BAD);
    }

    private static void goToTheEnds() {
        EchoPaysRent x = new EchoPaysRent();
        Due.due("12: the SPEAKER to 40", x.go(0, 40), 0);
        Due.due("12: the SPEAKER to 0", x.go(0, 0), 40);
        Due.due("12: the HEARER to 40", x.go(1, 40), 10);
        Due.due("12: the HEARER to 0", x.go(1, 0), 40);
        Due.due("12: the SPEAKER to 40", x.go(0, 40), 0);
        stands("12", x, 40, 0, 2, 5);
    }

    private static void goToTheSameYard() {
        EchoPaysRent x = new EchoPaysRent();
        Due.due("12: the SPEAKER stays", x.go(0, 0), 0);
        Due.due("12: the HEARER stays", x.go(1, 10), 10);
        Due.due("12: the SPEAKER to the HEARER", x.go(0, 10), 0);
        Due.due("12: all are CLEAR at once", x.heard(10, 0), 1);
        stands("12", x, 10, 10, 2, 3);
    }

    private static void goBadChangesNothing() {
        EchoPaysRent x = new EchoPaysRent();
        x.go(0, 7);
        x.go(1, 8);
        int[][] bad = {{-1, 5}, {2, 5}, {0, -1}, {0, 41}, {1, -1}, {1, 41}, {2, 41}};
        for (int[] b : bad) {
            Due.due("12: go(" + b[0] + ", " + b[1] + ")", x.go(b[0], b[1]), BAD);
            stands("12: behind it", x, 7, 8, 2, 2);
        }
    }

    // ---- 13

    private static void snowOnSuchAsThereAre() {
        for (int cliffs = 0; cliffs <= 4; cliffs++) {
            EchoPaysRent x = Due.laid("f1,1,1;".repeat(cliffs) + "w1,1,1;");
            Due.ends("13: snow(set) of " + cliffs, 0, (1 << cliffs) - 1, set -> x.snow(set));
            Due.due("13: a bit far above", x.snow(1 << 31 | 1), BAD);
            Due.due("13: a bit far above alone", x.snow(1 << 30), BAD);
        }
    }

    private static void snowOnEverySet() {
        EchoPaysRent x = Due.laid("f1,1,1;f2,2,2;f3,3,3;f4,4,0;w1,1,1;");
        for (int set = 0; set <= 15; set++) {
            Due.due("13: snow(" + set + ")", x.snow(set), Math.max(0, set - 1));
            for (int f = 0; f < 4; f++) {
                Due.due("13: face(" + f + ", 3) by " + set, x.face(f, 3), set >> f & 1);
            }
        }
    }

    /** Not more and more: what is not in the set has no SNOW any more. */
    private static void snowAsItIsToldThen() {
        EchoPaysRent x = Due.laid("f1,1,1;f2,2,2;f3,3,3;f4,4,0;w1,1,1;");
        Due.due("13: all", x.snow(15), 0);
        Due.due("13: one", x.snow(8), 15);
        Due.due("13: another", x.snow(1), 8);
        Due.due("13: none", x.snow(0), 1);
        Due.due("13: none again", x.snow(0), 0);
        Due.due("13: UNDONE can be", x.count(7), 5);
    }

    private static void snowBadChangesNothing() {
        EchoPaysRent x = new EchoPaysRent();
        x.snow(1);
        for (int set : new int[] {-1, 2, 3, Integer.MIN_VALUE, Integer.MAX_VALUE}) {
            Due.due("13: snow(" + set + ")", x.snow(set), BAD);
            Due.due("13: the SNOW stays", x.face(0, 3), 1);
            Due.due("13: UNDONE can be", x.count(7), 1);
        }
        Due.due("13: it was as it was", x.snow(0), 1);
    }

    // ---- 14

    private static void sayTheEnds() {
        Due.ends("14: say(t, 1, 1)", 0, 30, t -> new EchoPaysRent().say(t, 1, 1));
        Due.ends("14: say(1, v, 1)", 1, 7, v -> new EchoPaysRent().say(1, v, 1));
        Due.ends("14: say(1, 1, l)", 1, 60, l -> new EchoPaysRent().say(1, 1, l));
        EchoPaysRent x = new EchoPaysRent();
        Due.due("14: all are none", x.say(31, 8, 61), BAD);
        Due.due("14: all are far off", x.say(Integer.MIN_VALUE, Integer.MAX_VALUE, Integer.MIN_VALUE), BAD);
        Due.due("14: the least", x.say(0, 1, 1), 3);
        Due.due("14: the greatest", x.say(30, 7, 60), 4);
        int[][] told = {{0, 1, 1}, {30, 7, 60}};
        for (int what = 0; what < 3; what++) {
            Due.due("14: word(2, " + what + ")", x.word(2, what), told[0][what]);
            Due.due("14: word(3, " + what + ")", x.word(3, what), told[1][what]);
        }
    }

    private static void sayTheLastThatFits() {
        for (int laid = 1; laid <= 8; laid++) {
            EchoPaysRent x = Due.laid("w1,2,3;".repeat(laid));
            for (int words = laid + 1; words <= 8; words++) {
                Due.due("14: say behind " + laid, x.say(4, 5, 6), words);
            }
            Due.due("14: the ninth", x.say(4, 5, 6), FULL);
            Due.due("14: the ninth again", x.say(0, 1, 1), FULL);
            Due.due("14: the first of them", x.word(0, 2), 3);
            Due.due("14: the last of them", x.word(7, 2), laid == 8 ? 3 : 6);
            stands("14: " + laid + " laid", x, 0, 10, 8, 8 - laid);
        }
    }

    private static void sayBadBeforeFull() {
        EchoPaysRent x = Due.laid("w1,2,3;".repeat(8));
        Due.due("14: FULL", x.say(0, 1, 1), FULL);
        int[][] bad = {{-1, 1, 1}, {31, 1, 1}, {0, 0, 1}, {0, 8, 1}, {0, 1, 0}, {0, 1, 61}, {-1, 0, 0},
            {Integer.MIN_VALUE, 1, 1}, {0, Integer.MAX_VALUE, 1}, {0, 1, Integer.MIN_VALUE}};
        for (int[] b : bad) {
            Due.due("14: say(" + b[0] + ", " + b[1] + ", " + b[2] + ") by 8", x.say(b[0], b[1], b[2]), BAD);
        }
        stands("14: BAD and FULL", x, 0, 10, 8, 0);
    }

    private static void sayAfterUndo() {
        EchoPaysRent x = Due.laid("w1,2,3;".repeat(7));
        Due.due("14: the eighth", x.say(4, 5, 6), 8);
        Due.due("14: the ninth", x.say(7, 7, 7), FULL);
        Due.due("15: undo()", x.undo(), 0);
        Due.due("14: another eighth", x.say(8, 6, 9), 8);
        Due.due("14: it is the other one", x.word(7, 0), 8);
        Due.due("14: the ninth", x.say(7, 7, 7), FULL);
    }

    private static void sayRefusedChangesNothing() {
        EchoPaysRent x = new EchoPaysRent();
        x.go(0, 3);
        Due.due("14: BAD", x.say(0, 1, 0), BAD);
        stands("14: behind BAD", x, 3, 10, 2, 1);
        Due.due("14: no WORD came", x.word(2, 0), BAD);
        Due.due("14: nothing is heard of it", x.heard(3, 0), 1);
    }

    // ---- 15

    private static void undoOfNothing() {
        EchoPaysRent x = new EchoPaysRent();
        Due.due("15: undo() of nothing", x.undo(), NO);
        Due.due("15: undo() again", x.undo(), NO);
        stands("15: behind NO", x, 0, 10, 2, 0);
        x.go(0, 1);
        Due.due("15: undo() of one", x.undo(), 0);
        Due.due("15: undo() of no more", x.undo(), NO);
        stands("15: behind NO", x, 0, 10, 2, 0);
    }

    private static void undoTheLastEightOnly() {
        for (int acts = 1; acts <= 18; acts++) {
            EchoPaysRent x = new EchoPaysRent();
            for (int yard = 1; yard <= acts; yard++) {
                x.go(0, yard);
                Due.due("15: count(7)", x.count(7), Math.min(yard, 8));
            }
            int can = Math.min(acts, 8);
            for (int left = can - 1; left >= 0; left--) {
                Due.due("15: undo() of " + acts, x.undo(), left);
                Due.due("15: the SPEAKER", x.count(2), acts - can + left);
            }
            Due.due("15: no more of " + acts, x.undo(), NO);
            Due.due("15: the SPEAKER stays", x.count(2), acts - can);
        }
    }

    /** The ninth from behind stays done, whatever it was. */
    private static void undoTheNinthOfEachKind() {
        int[][] due = {{33, 10, 2, 0}, {0, 33, 2, 0}, {0, 10, 2, 1}, {0, 10, 3, 0}};
        for (int kind = 0; kind < 4; kind++) {
            EchoPaysRent x = new EchoPaysRent();
            switch (kind) {
                case 0 -> x.go(0, 33);
                case 1 -> x.go(1, 33);
                case 2 -> x.snow(1);
                default -> x.say(1, 1, 1);
            }
            for (int i = 0; i < 8; i++) {
                x.go(i % 2, i);
            }
            for (int left = 7; left >= 0; left--) {
                Due.due("15: undo()", x.undo(), left);
            }
            Due.due("15: no more", x.undo(), NO);
            stands("15: the ninth, " + kind, x, due[kind][0], due[kind][1], due[kind][2], 0);
            Due.due("15: SNOW, " + kind, x.face(0, 3), due[kind][3]);
        }
    }

    private static void undoWhatBecameNothingOther() {
        EchoPaysRent x = new EchoPaysRent();
        x.go(0, 5);
        for (int i = 0; i < 3; i++) {
            x.go(0, 5);
            x.go(1, 10);
            x.snow(0);
        }
        Due.due("15: eight of ten", x.count(7), 8);
        for (int left = 7; left >= 0; left--) {
            Due.due("15: undo() of nothing other", x.undo(), left);
            stands("15", x, 5, 10, 2, left);
        }
        Due.due("15: the first is too long ago", x.undo(), NO);
        Due.due("15: the SPEAKER", x.count(2), 5);
    }

    private static void undoNotWhatWasRefused() {
        EchoPaysRent x = Due.withText("w1");
        while (x.count(1) < 8) {
            x.say(1, 1, 1);
        }
        x.go(0, 5);
        Due.due("15: what was done", x.count(7), 7);
        x.go(0, 41);
        x.go(2, 1);
        x.snow(2);
        x.say(1, 1, 0);
        x.say(1, 1, 1);
        x.back();
        x.lay();
        Due.due("15: what was refused is not", x.count(7), 7);
        Due.due("15: undo()", x.undo(), 6);
        stands("15: the latest that was done", x, 0, 10, 8, 6);
    }

    private static void undoIsNotUndone() {
        EchoPaysRent x = new EchoPaysRent();
        x.go(0, 1);
        x.go(0, 2);
        x.go(0, 3);
        Due.due("15: undo()", x.undo(), 2);
        Due.due("15: undo() goes on", x.undo(), 1);
        Due.due("15: the SPEAKER", x.count(2), 1);
        Due.due("15: undo() of the first", x.undo(), 0);
        Due.due("15: the SPEAKER", x.count(2), 0);
        Due.due("15: no more", x.undo(), NO);
    }

    private static void undoAndAnotherWay() {
        EchoPaysRent x = new EchoPaysRent();
        for (int yard = 1; yard <= 8; yard++) {
            x.go(0, yard);
        }
        Due.due("15: undo()", x.undo(), 7);
        Due.due("15: undo()", x.undo(), 6);
        Due.due("12: another way", x.go(0, 30), 6);
        Due.due("14: and a WORD", x.say(9, 3, 9), 3);
        Due.due("15: eight again", x.count(7), 8);
        Due.due("13: the ninth", x.snow(1), 0);
        Due.due("15: eight still", x.count(7), 8);
        int[] speakers = {30, 30, 6, 5, 4, 3, 2, 1};
        int[] words = {3, 2, 2, 2, 2, 2, 2, 2};
        for (int i = 0; i < 8; i++) {
            Due.due("15: undo()", x.undo(), 7 - i);
            stands("15: the way back, " + i, x, speakers[i], 10, words[i], 7 - i);
        }
        Due.due("15: no more", x.undo(), NO);
    }

    private static void undoBehindLayAndBack() {
        EchoPaysRent x = Due.withText("w1,2,3;");
        x.go(0, 5);
        Due.due("5: lay()", x.lay(), 1);
        Due.due("15: nothing is UNDONE behind lay()", x.undo(), NO);
        x.go(0, 6);
        x.keep();
        x.go(0, 7);
        Due.due("15: keep() takes nothing of it", x.count(7), 2);
        Due.due("29: back()", x.back(), 0);
        Due.due("15: nothing is UNDONE behind back()", x.undo(), NO);
        stands("15", x, 6, 10, 1, 0);
    }
}
