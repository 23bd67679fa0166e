/** LEFT OUT, TALK, SECOND, THICK, HECKLER, and promises 16 to 22: each sentence that names a bound. */
public final class PlaysBoundsTest {
    private static final int BAD = EchoPaysRent.BAD, NO = EchoPaysRent.NO;
    private static final int FULL = EchoPaysRent.FULL, NONE = EchoPaysRent.NONE;

    private PlaysBoundsTest() {
    }

    public static void main(String[] args) {
        leftOutNoneAndAll();
        leftOutOfFewest();
        leftOutOfSeveralTheLowest();
        leftOutAsThingsStand();
        talkTheEnds();
        talkTheLastThatFits();
        talkBadBeforeFull();
        noTalkOfNoneAndSix();
        linesWithoutTalk();
        linesOfNotSoManyBeats();
        linesBelowMinusOne();
        linesOfNone();
        linesOfNothingToSay();
        linesOfEachLength();
        linesAsLoudAsFifty();
        linesLeaveOutWhatIsTold();
        linesOfTheFewest();
        linesOfSeveralTheFirst();
        linesDoNotLookBehindTheTalk();
        secondYards();
        secondAtOnceAndAtTheLastBeat();
        secondOfNone();
        secondEachByWhomItIs();
        secondAsThingsStand();
        thickTheEnds();
        thickByEachLowerOne();
        thickAsThingsStand();
        heckleNumbers();
        heckleLoudnessOneAndSixty();
        heckleBeatZeroAndSixty();
        heckleOfNone();
        heckleOfSeveralTheLowestBeat();
        heckleAsThingsStand();
        Due.finish("PlaysBoundsTest");
    }

    // ---- 16

    private static void leftOut(String text, int want) {
        Due.due("16: leftOut() of " + text, Due.laid(text).leftOut(), want);
    }

    private static void leftOutNoneAndAll() {
        for (int words = 1; words <= 8; words++) {
            leftOut("w0,1,1;h0;".repeat(words), 0);
            // not one comes so far: all have to go, then all others are CLEAR
            leftOut("w0,1,1;h1;".repeat(words), (1 << words) - 1);
        }
        leftOut("w30,7,60;".repeat(8) + "s40;h0;", 0);
    }

    private static void leftOutOfFewest() {
        // one against seven, which are the lower bits
        leftOut("w0,1,9;".repeat(7) + "w0,2,9;h0;", 128);
        leftOut("w0,2,9;" + "w0,1,9;".repeat(7) + "h0;", 1);
        // three V's at one beat: all but those of one V have to go
        leftOut("w0,1,9;w0,2,9;w0,3,9;w0,3,9;h0;", 3);
        leftOut("w0,3,9;w0,3,9;w0,1,9;w0,2,9;h0;", 12);
        leftOut("w0,1,9;w0,2,9;w0,3,9;w0,4,9;w0,5,9;w0,6,9;w0,7,9;w0,7,9;h0;", 63);
    }

    private static void leftOutOfSeveralTheLowest() {
        leftOut("w0,1,9;w0,2,9;h0;", 1);
        leftOut("w0,2,9;w0,1,9;h0;", 1);
        leftOut("w0,1,9;w0,1,9;w0,2,9;w0,2,9;h0;", 3);
        leftOut("w0,1,9;w0,2,9;w0,2,9;w0,1,9;h0;", 6);
        leftOut("w0,1,9;w0,2,9;w0,1,9;w0,2,9;h0;", 5);
        // in each of four pairs the one of the lower bit
        leftOut("w0,1,9;w0,2,9;w1,1,9;w1,2,9;w2,1,9;w2,2,9;w3,1,9;w3,2,9;h0;", 85);
        leftOut("w0,1,9;w1,1,9;w2,1,9;w3,1,9;w0,2,9;w1,2,9;w2,2,9;w3,2,9;h0;", 15);
    }

    private static void leftOutAsThingsStand() {
        EchoPaysRent x = Due.laid("w0,1,9;w2,2,5;h0;f0,0,2;");
        Due.due("16: masked by what comes BACK", x.leftOut(), 1);
        x.snow(1);
        Due.due("16: with SNOW", x.leftOut(), 0);
        x.go(1, 5);
        Due.due("16: too far for the second", x.leftOut(), 2);
        x.go(1, 9);
        Due.due("16: too far for both", x.leftOut(), 3);
        x.say(30, 7, 60);
        Due.due("16: not for a third", x.leftOut(), 3);
        Due.due("16: nothing is left out by asking", x.count(1), 3);
    }

    // ---- 17, 18

    private static void talkTheEnds() {
        Due.ends("17: talk(v)", 0, 3, v -> new EchoPaysRent().talk(v));
        for (int v = 0; v <= 3; v++) {
            EchoPaysRent x = new EchoPaysRent();
            Due.due("17: talk(" + v + ")", x.talk(v), 1);
            Due.due("19: it is to be said", x.lines(0), v);
        }
    }

    private static void talkTheLastThatFits() {
        EchoPaysRent x = new EchoPaysRent();
        for (int many = 1; many <= 6; many++) {
            Due.due("17: talk(" + many % 4 + ")", x.talk(many % 4), many);
        }
        for (int v = 0; v <= 3; v++) {
            Due.due("17: the seventh, " + v, x.talk(v), FULL);
        }
        Due.due("17: it is of six still", x.count(5), 6);
        int[] said = {1, 2, 3, 0, 1, 2};
        for (int i = 0; i < said.length; i++) {
            Due.due("17: it is as it was at " + i, x.lines(i), said[i]);
        }
    }

    private static void talkBadBeforeFull() {
        EchoPaysRent x = new EchoPaysRent();
        for (int many = 1; many <= 6; many++) {
            x.talk(0);
        }
        for (int v : new int[] {-1, 4, Integer.MIN_VALUE, Integer.MAX_VALUE}) {
            Due.due("17: talk(" + v + ") by six", x.talk(v), BAD);
        }
        Due.due("17: it is of six still", x.count(5), 6);
    }

    private static void noTalkOfNoneAndSix() {
        EchoPaysRent x = new EchoPaysRent();
        Due.due("18: of none", x.noTalk(), 0);
        Due.due("18: of none again", x.noTalk(), 0);
        for (int many = 1; many <= 6; many++) {
            for (int i = 1; i <= many; i++) {
                Due.due("17: there is room again", x.talk(i % 4), i);
            }
            Due.due("18: of " + many, x.noTalk(), many);
            Due.due("18: of none then", x.noTalk(), 0);
            Due.due("19: no TALK", x.lines(-1), NO);
        }
    }

    // ---- 19

    private static EchoPaysRent talked(String text, int... talk) {
        EchoPaysRent x = Due.laid(text);
        for (int v : talk) {
            x.talk(v);
        }
        Due.due("17: so many", x.count(5), talk.length);
        return x;
    }

    /** What is to be said at each beat. */
    private static void says(EchoPaysRent x, int... due) {
        int words = 0;
        for (int i = 0; i < due.length; i++) {
            Due.due("19: lines(" + i + ")", x.lines(i), due[i]);
            words += due[i] > 0 ? 1 : 0;
        }
        Due.due("19: lines(-1)", x.lines(-1), words);
        Due.due("19: lines(" + due.length + ")", x.lines(due.length), NONE);
    }

    private static void linesWithoutTalk() {
        EchoPaysRent x = new EchoPaysRent();
        for (int i : new int[] {-1, 0, 1, 5, 6, 7, Integer.MAX_VALUE}) {
            Due.due("19: lines(" + i + ") without TALK: NO before NONE", x.lines(i), NO);
        }
        for (int i : new int[] {-2, -3, Integer.MIN_VALUE}) {
            Due.due("19: lines(" + i + ") without TALK: BAD before NO", x.lines(i), BAD);
        }
    }

    private static void linesOfNotSoManyBeats() {
        for (int many = 1; many <= 6; many++) {
            EchoPaysRent x = talked("w0,7,60;", new int[many]);
            Due.due("19: the last beat of " + many, x.lines(many - 1), 0);
            for (int i : new int[] {many, many + 1, 7, 30, 31, Integer.MAX_VALUE}) {
                Due.due("19: lines(" + i + ") of " + many, x.lines(i), NONE);
            }
        }
    }

    private static void linesBelowMinusOne() {
        EchoPaysRent can = talked("w0,7,60;", 1, 2);
        EchoPaysRent cannot = talked("w0,7,60;a9;", 1, 2);
        for (int i : new int[] {-2, -3, -100, Integer.MIN_VALUE}) {
            Due.due("19: lines(" + i + ")", can.lines(i), BAD);
            Due.due("19: lines(" + i + ") of none: BAD before NONE", cannot.lines(i), BAD);
        }
    }

    private static void linesOfNone() {
        EchoPaysRent x = talked("w0,7,60;a9;", 0, 0, 1);
        for (int i = -1; i <= 4; i++) {
            Due.due("19: lines(" + i + ") where nothing comes", x.lines(i), NONE);
        }
        Due.due("12: nearer", x.go(1, 5), 10);
        says(x, 0, 0, 1);
        // BACK at once and 2 beats later, with nothing told there
        x = talked("w0,7,60;h0;f0,0,2;", 1, 0, 0);
        for (int i = -1; i <= 3; i++) {
            Due.due("19: lines(" + i + ") where it comes BACK", x.lines(i), NONE);
        }
        Due.due("13: SNOW", x.snow(1), 0);
        says(x, 1, 0, 0);
    }

    private static void linesOfNothingToSay() {
        for (int many = 1; many <= 6; many++) {
            says(talked("w0,7,60;", new int[many]), new int[many]);
            // it is not heard, so it is as told where the air takes all, too
            says(talked("w0,7,60;a9;h40;", new int[many]), new int[many]);
        }
    }

    private static void linesOfEachLength() {
        says(talked("w0,7,60;", 3), 3);
        says(talked("w0,7,60;", 3, 2), 3, 2);
        says(talked("w0,7,60;", 3, 2, 1), 3, 2, 1);
        says(talked("w0,7,60;", 3, 2, 1, 0), 3, 2, 1, 0);
        says(talked("w0,7,60;", 3, 2, 1, 0, 1), 3, 2, 1, 0, 1);
        says(talked("w0,7,60;", 3, 2, 1, 0, 1, 3), 3, 2, 1, 0, 1, 3);
        says(talked("w0,7,60;", 3, 3, 3, 3, 3, 3), 3, 3, 3, 3, 3, 3);
        says(talked("w0,7,60;", 0, 0, 0, 0, 0, 3), 0, 0, 0, 0, 0, 3);
        says(talked("w0,7,60;s40;h40;", 0, 0, 0, 0, 0, 1), 0, 0, 0, 0, 0, 1);
    }

    private static void linesAsLoudAsFifty() {
        says(talked("w0,7,60;h40;", 2), 2);
        says(talked("w0,7,60;h24;a2;", 2), 2);
        Due.due("19: 25 yards by 2", talked("w0,7,60;h25;a2;", 2).lines(0), NONE);
        says(talked("w0,7,60;h7;a7;", 2), 2);
        says(talked("w0,7,60;h5;a9;", 2), 2);
        Due.due("19: 6 yards by 9", talked("w0,7,60;h6;a9;", 2).lines(0), NONE);
        // BACK from 2 yards off it is as LOUD as 50 less 32 and 9, or less 32 and twice 9
        says(talked("w0,7,60;h0;f2,9,0;a8;", 1, 0, 0, 0, 1, 0), 1, 0, 0, 0, 0, 0);
        says(talked("w0,7,60;h0;f2,9,1;a8;", 1, 0, 0, 0, 1, 0), 1, 0, 0, 0, 1, 0);
    }

    /** As LOUD as 60 they would mask all. */
    private static void linesLeaveOutWhatIsTold() {
        says(talked("w0,7,60;w1,7,60;w2,7,60;", 0, 1, 0), 0, 1, 0);
        says(talked("w0,1,60;w1,1,60;w2,1,60;", 0, 0, 1), 0, 0, 1);
        says(talked("w0,1,60;".repeat(8), 2, 2, 2, 2, 2, 2), 2, 2, 2, 2, 2, 2);
    }

    private static void linesOfTheFewest() {
        // what is said at 0 and 1 comes BACK 2 and 4 beats later
        says(talked("w0,7,60;f11,0,0;f12,0,0;", 1, 2, 1, 2, 1, 2), 1, 2, 0, 0, 0, 0);
        // all six beats by one: BACK at 2 and, DOUBLE, at 6, at 4 and at 8, the odd ones are silent
        says(talked("w0,7,60;f11,0,3;f12,0,3;", 3, 0, 3, 0, 3, 0), 3, 0, 0, 0, 0, 0);
        // where it does not come BACK all have to be said
        says(talked("w0,7,60;", 3, 0, 3, 0, 3, 0), 3, 0, 3, 0, 3, 0);
    }

    /** All that is said comes at once as well, so that the first of several says less at the first beats. */
    private static void linesOfSeveralTheFirst() {
        // HEARD at 1 and 3: by one at 1; at 5 by one at 3 (which is heard at 3 anyway) or at 5
        says(talked("w0,7,60;f11,0,0;", 0, 2, 0, 2, 0, 2), 0, 2, 0, 0, 0, 2);
        says(talked("w0,7,60;f11,0,0;", 2, 0, 2, 0, 2, 0), 2, 0, 0, 0, 2, 0);
        says(talked("w0,7,60;f11,0,0;", 2, 2, 2, 2, 2, 2), 2, 2, 0, 0, 2, 2);
    }

    /** What comes BACK behind the last beat of the TALK is as it may be. */
    private static void linesDoNotLookBehindTheTalk() {
        says(talked("w0,7,60;h0;f0,0,2;", 1, 2), 1, 2);
        Due.due("19: one beat more", talked("w0,7,60;h0;f0,0,2;", 1, 2, 0).lines(-1), NONE);
        says(talked("w0,7,60;h0;f0,0,2;", 1, 2, 1), 1, 2, 0);
        says(talked("w0,7,60;h0;f0,0,2;", 1, 2, 1, 2), 1, 2, 0, 0);
    }

    // ---- 20

    private static void second(String text, int x, int want) {
        Due.due("20: second(" + x + ") of " + text, Due.laid(text).second(x), want);
    }

    private static void secondYards() {
        EchoPaysRent x = new EchoPaysRent();
        Due.ends("20: second(x)", 0, 40, yard -> x.second(yard));
        EchoPaysRent none = Due.laid("w0,1,9;w0,2,9;");
        Due.ends("20: second(x) of none", 0, 40, yard -> none.second(yard));
    }

    private static void secondAtOnceAndAtTheLastBeat() {
        second("w0,1,1;h0;", 0, 0);
        second("w30,7,60;".repeat(8) + "s40;h0;", 40, 0);
        second("w0,1,41;h40;", 0, 0);
        second("w0,1,50;w1,2,50;w2,3,50;w3,4,50;w4,5,50;w5,6,50;w6,7,50;h0;", 1, 6);
        second("f19,4,3;f14,9,3;f13,2,2;f15,0,3;w13,3,50;w8,7,42;w15,1,31;w9,6,3;w1,5,5;w29,4,55;"
            + "w26,2,59;w18,5,8;s30;h29;", 31, 60);
    }

    private static void secondOfNone() {
        second("w0,1,1;h0;", 1, NONE);
        second("w0,1,1;h1;", 1, NONE);
        second("w0,1,9;w0,2,9;h0;", 0, NONE);
        // it would be clear only behind beat 60
        second("f5,2,3;f34,4,3;f22,6,3;w3,4,4;w0,6,17;w5,2,13;w29,5,59;w18,1,53;w27,5,57;w4,7,13;"
            + "w10,5,54;s19;h19;", 20, NONE);
    }

    /** What is HEARD as V by the SPEAKER's play does not make the other one's CLEAR, nor the other way about. */
    private static void secondEachByWhomItIs() {
        // the other one's does not come to 10 from 40, though V is HEARD then
        second("w0,1,20;w30,1,60;", 40, NONE);
        second("w0,1,31;w30,1,60;", 40, 0);
        // the SPEAKER's does not come to 10 from 40
        second("w0,1,20;w30,1,60;s40;", 0, NONE);
        second("w0,1,31;w30,1,60;s40;", 0, 0);
    }

    private static void secondAsThingsStand() {
        EchoPaysRent x = Due.laid("w0,1,60;w2,2,9;h0;f0,0,2;");
        Due.due("20: masked by what comes BACK", x.second(0), NONE);
        x.snow(1);
        Due.due("20: with SNOW", x.second(0), 0);
        x.say(0, 2, 60);
        Due.due("20: with a BLUR", x.second(0), NONE);
        x.undo();
        x.go(1, 9);
        Due.due("20: too far for the second", x.second(0), NONE);
        x.go(1, 8);
        Due.due("20: not too far", x.second(0), 0);
        Due.due("20: the WORDS stay", x.count(1), 2);
    }

    // ---- 21

    private static void thick(String text, int want) {
        Due.due("21: thick() of " + text, Due.laid(text).thick(), want);
    }

    private static void thickTheEnds() {
        thick("w0,1,1;h0;", 99);
        thick("w0,1,1;h0;a9;", 99);
        thick("w0,1,1;h1;", NONE);
        thick("w0,1,2;h1;", 1);
        thick("w0,1,3;h1;", 2);
        thick("w0,1,60;h1;", 59);
        thick("w0,1,60;h1;a9;", 59);
        thick("w0,1,40;h40;", NONE);
        thick("w0,1,41;h40;", 1);
        thick("w0,1,60;h40;", 1);
        thick("w0,1,60;h20;", 2);
        thick("w0,1,60;h20;a9;", 2);
        thick("w0,1,60;w0,2,60;h0;", NONE);
        thick("w30,7,60;".repeat(8) + "s40;h40;", 99);
    }

    /** By air 1 it is masked by what comes BACK, by a thicker one it would not be. */
    private static void thickByEachLowerOne() {
        thick("w0,1,60;w2,2,58;f1,0,0;h0;", NONE);
        thick("w0,1,60;w2,2,59;f1,0,0;h0;", 99);
        // WORDS by 3 yards: 60 less 3 times 19 is 3; 40 less 3 times 13 is 1
        thick("w0,1,60;h3;", 19);
        thick("w0,1,40;h3;", 13);
        thick("w0,1,60;w5,2,40;h3;", 13);
    }

    private static void thickAsThingsStand() {
        EchoPaysRent x = Due.laid("w0,1,60;w2,2,58;f1,0,0;h0;a7;");
        Due.due("21: masked", x.thick(), NONE);
        x.snow(1);
        Due.due("21: with SNOW", x.thick(), 99);
        x.go(1, 1);
        Due.due("21: a yard off", x.thick(), 57);
        x.say(9, 1, 5);
        Due.due("21: with a weak WORD", x.thick(), 4);
        Due.due("21: THE AIR stays", x.count(4), 7);
    }

    // ---- 22

    private static void heckle(String text, int x, int v, int loudness, int beat) {
        EchoPaysRent o = Due.laid(text);
        Due.due("22: heckle(" + x + ", " + v + ", 0) of " + text, o.heckle(x, v, 0), loudness);
        Due.due("22: heckle(" + x + ", " + v + ", 1) of " + text, o.heckle(x, v, 1), beat);
    }

    private static void heckleNumbers() {
        EchoPaysRent x = new EchoPaysRent();
        EchoPaysRent none = Due.laid("w0,1,1;h1;");
        Due.ends("22: heckle(x, 3, 0)", 0, 40, yard -> x.heckle(yard, 3, 0));
        Due.ends("22: heckle(10, v, 0)", 1, 7, v -> x.heckle(10, v, 0));
        Due.ends("22: heckle(10, 3, what)", 0, 1, what -> x.heckle(10, 3, what));
        Due.ends("22: heckle(x, 3, 0) of none", 0, 40, yard -> none.heckle(yard, 3, 0));
        Due.ends("22: heckle(10, v, 0) of none", 1, 7, v -> none.heckle(10, v, 0));
        Due.ends("22: heckle(10, 3, what) of none", 0, 1, what -> none.heckle(10, 3, what));
        Due.due("22: all are none", x.heckle(41, 8, 2), BAD);
        Due.due("22: all are far off", x.heckle(Integer.MIN_VALUE, Integer.MAX_VALUE, Integer.MIN_VALUE), BAD);
    }

    private static void heckleLoudnessOneAndSixty() {
        heckle("w0,1,1;h0;", 0, 2, 1, 0);
        heckle("w0,1,2;h0;", 0, 2, 2, 0);
        heckle("w0,1,11;", 10, 2, 1, 10);
        heckle("w0,1,60;h0;", 0, 2, 60, 0);
        heckle("w1,1,59;h0;", 1, 2, 60, 0);
        // from a yard off it had to be as LOUD as 61
        heckle("w1,1,60;h0;", 1, 2, NONE, NONE);
        heckle("w30,1,60;h10;s10;", 40, 2, NONE, NONE);
        heckle("w30,1,30;h10;s10;", 40, 2, 60, 0);
        heckle("w30,1,31;h10;s10;", 40, 2, NONE, NONE);
    }

    private static void heckleBeatZeroAndSixty() {
        heckle("w0,1,9;h0;", 0, 2, 9, 0);
        // from a yard off it had to be said a beat before 0
        heckle("w0,1,9;h0;", 1, 2, NONE, NONE);
        heckle("w1,1,9;h0;", 1, 2, 10, 0);
        heckle("w30,7,60;s0;h30;", 30, 6, 30, 60);
        // a beat too late
        heckle("w30,7,60;s0;h31;", 31, 6, NONE, NONE);
        heckle("w30,7,60;s0;h31;", 30, 6, 30, 60);
        heckle("w30,7,60;s40;h0;", 10, 6, 30, 60);
        heckle("w30,7,60;s40;h0;", 9, 6, NONE, NONE);
    }

    private static void heckleOfNone() {
        // none is CLEAR
        heckle("w0,1,1;h1;", 1, 2, NONE, NONE);
        heckle("w0,1,9;w0,2,9;h0;", 0, 3, NONE, NONE);
        // his own V spoils nothing, and so for each V
        for (int v = 1; v <= 7; v++) {
            heckle("w5," + v + ",9;h0;", 0, v, NONE, NONE);
            heckle("w5," + v + ",9;h0;", 0, v % 7 + 1, 9, 5);
        }
        heckle("w5,1,9;w6,1,8;h0;", 0, 1, NONE, NONE);
        heckle("w5,1,9;w6,2,8;h0;", 0, 1, 8, 6);
    }

    private static void heckleOfSeveralTheLowestBeat() {
        heckle("w7,1,9;w5,2,9;w6,3,9;h0;", 0, 4, 9, 5);
        heckle("w7,1,9;w5,2,9;w6,3,9;h0;", 0, 2, 9, 6);
        heckle("w0,1,9;w30,2,9;h0;", 0, 3, 9, 0);
        heckle("w30,2,9;w0,1,9;h0;", 0, 3, 9, 0);
        // the least LOUDNESS before the lowest beat
        heckle("w0,1,9;w30,2,8;h0;", 0, 3, 8, 30);
        // LATE at once: the same LOUDNESS two beats before
        heckle("w5,1,30;h0;f0,0,2;", 0, 2, 30, 3);
        heckle("w2,1,30;h0;f0,0,2;", 0, 2, 30, 0);
        heckle("w1,1,30;h0;f0,0,2;", 0, 2, 30, 1);
    }

    private static void heckleAsThingsStand() {
        EchoPaysRent x = Due.laid("w5,1,30;h0;f0,0,2;");
        Due.due("22: by the CLIFF", x.heckle(0, 2, 1), 3);
        x.snow(1);
        Due.due("22: with SNOW", x.heckle(0, 2, 1), 5);
        x.say(9, 3, 20);
        Due.due("22: another WORD", x.heckle(0, 2, 0), 20);
        Due.due("22: its beat", x.heckle(0, 2, 1), 9);
        x.go(1, 25);
        Due.due("22: too far for it", x.heckle(25, 2, 0), 5);
        Due.due("22: the beat there", x.heckle(25, 2, 1), 30);
        x.go(1, 30);
        Due.due("22: too far for both", x.heckle(30, 2, 0), NONE);
        Due.due("22: the WORDS stay", x.count(1), 2);
    }
}
