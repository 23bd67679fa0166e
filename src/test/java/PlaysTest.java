/** Promises 16 to 22: leftOut, talk, noTalk, lines, second, thick, heckle. */
public final class PlaysTest {
    private static final int BAD = EchoPaysRent.BAD, NO = EchoPaysRent.NO;
    private static final int FULL = EchoPaysRent.FULL, NONE = EchoPaysRent.NONE;

    private PlaysTest() {
    }

    public static void main(String[] args) {
        leftOut();
        talk();
        linesPlain();
        linesByEcho();
        linesOfSeveral();
        linesAsThingsStand();
        second();
        secondByCliffs();
        thick();
        heckle();
        heckleByCliffs();
        heckleBad();
        nothingChanges();
        Due.finish("PlaysTest");
    }

    private static void leftOut(String text, int want) {
        Due.due("16: leftOut() of " + text, Due.laid(text).leftOut(), want);
    }

    private static void leftOut() {
        leftOut("w0,1,50;w1,2,50;", 0);
        leftOut("w0,1,50;w0,2,50;", 1);
        leftOut("w0,1,50;w0,2,51;", 1);
        leftOut("w0,1,51;w0,2,50;", 1);
        leftOut("w0,1,50;w5,2,10;", 2);
        leftOut("w0,1,50;w0,1,40;", 0);
        // one against two others: the fewest
        leftOut("w0,1,50;w0,1,50;w0,2,50;", 4);
        leftOut("w0,1,50;w0,2,50;w0,3,50;", 3);
        leftOut("w0,1,50;w0,2,50;w5,1,50;w5,3,50;", 5);
        // what doesn't come is left out, all of it if need be
        leftOut("w0,1,10;w5,2,50;w7,3,1;", 5);
        leftOut("w0,1,1;w0,2,1;", 3);
        leftOut("w0,1,1;".repeat(8), 255);
        // what comes BACK of the first, at 30 and 30 LOUD, is as LOUD as the second
        leftOut("w0,1,60;w20,2,40;s0;f20,0,0;", 1);
        leftOut("w0,1,60;w20,2,41;s0;f20,0,0;", 0);
    }

    private static void talk() {
        EchoPaysRent x = new EchoPaysRent();
        Due.due("18: noTalk() at first", x.noTalk(), 0);
        Due.due("17: talk(-1)", x.talk(-1), BAD);
        Due.due("17: talk(4)", x.talk(4), BAD);
        Due.due("17: count(5)", x.count(5), 0);
        for (int i = 1; i <= 6; i++) {
            Due.due("17: talk(" + i % 4 + ")", x.talk(i % 4), i);
        }
        Due.due("17: the seventh", x.talk(0), FULL);
        Due.due("17: BAD before FULL", x.talk(4), BAD);
        Due.due("17: count(5)", x.count(5), 6);
        Due.due("18: noTalk()", x.noTalk(), 6);
        Due.due("18: noTalk() again", x.noTalk(), 0);
        Due.due("17: talk(3)", x.talk(3), 1);
        Due.due("18: count(5)", x.count(5), 1);
    }

    /** Due for a TALK: how many WORDS, then what is said at each beat; NONE alone where there is none. */
    private static void lines(String text, int[] talk, int... due) {
        EchoPaysRent x = Due.laid(text);
        linesOf(text, x, talk, due);
    }

    private static void linesOf(String text, EchoPaysRent x, int[] talk, int... due) {
        x.noTalk();
        for (int v : talk) {
            x.talk(v);
        }
        for (int i = -1; i < talk.length; i++) {
            int want = due.length == 1 ? NONE : due[i + 1];
            Due.due("19: lines(" + i + ") of " + text, x.lines(i), want);
        }
        Due.due("19: lines(" + talk.length + ")", x.lines(talk.length), NONE);
        Due.due("19: lines(MAX)", x.lines(Integer.MAX_VALUE), NONE);
        Due.due("19: lines(-2)", x.lines(-2), BAD);
        Due.due("19: lines(MIN)", x.lines(Integer.MIN_VALUE), BAD);
    }

    private static int[] row(int... numbers) {
        return numbers;
    }

    private static void linesPlain() {
        lines("w0,7,60;", row(1), 1, 1);
        lines("w0,7,60;", row(0), 0, 0);
        lines("w0,7,60;", row(3, 0, 2, 2, 1, 0), 4, 3, 0, 2, 2, 1, 0);
        lines("w0,7,60;", row(0, 0, 0, 0, 0, 0), 0, 0, 0, 0, 0, 0, 0);
        lines("w0,7,60;", row(3, 1, 2, 2, 1, 3), 6, 3, 1, 2, 2, 1, 3);
        // 50 comes 49 yards far through air 1, and not where the air takes it all
        lines("w0,7,60;h40;", row(1, 2), 2, 1, 2);
        lines("w0,7,60;h10;a5;", row(1, 2), NONE);
        lines("w0,7,60;h10;a5;", row(0, 0), 0, 0, 0);
        lines("w0,7,60;h7;a7;", row(0, 3), 1, 0, 3);
    }

    private static void linesByEcho() {
        // the CLIFF is 2 yards behind the HEARER: all comes BACK 4 beats later, as 1 less 4
        lines("w0,7,60;f12,0,0;", row(1, 0, 0, 0, 1, 0), 1, 1, 0, 0, 0, 0, 0);
        lines("w0,7,60;f12,0,0;", row(1, 0, 0, 0, 0, 0), NONE);
        lines("w0,7,60;f12,0,0;", row(1, 2, 0, 0, 2, 2), 3, 1, 2, 0, 0, 2, 0);
        lines("w0,7,60;f12,0,2;", row(1, 0, 0, 0, 1), 2, 1, 0, 0, 0, 1);
        lines("w0,7,60;f12,0,2;", row(1, 0, 0, 0, 0, 0), 1, 1, 0, 0, 0, 0, 0);
        // behind the SPEAKER: one at his yard twice, at once and 4 beats later
        lines("w0,7,60;f0,0,3;", row(2, 0, 0, 0, 2, 3), 2, 2, 0, 0, 0, 0, 3);
        // LATE: at beat 2 as LOUD as DIRECT: another one then is a BLUR
        lines("w0,7,60;f0,0,2;", row(2, 0, 2, 0, 2), 2, 2, 0, 0, 0, 2);
        lines("w0,7,60;f0,0,2;", row(2, 0, 1), NONE);
        lines("w0,7,60;f0,1,2;", row(2, 0, 1), 2, 2, 0, 1);
        lines("w0,7,60;f0,0,2;", row(2, 0, 2), 1, 2, 0, 0);
        EchoPaysRent x = Due.laid("w0,7,60;f0,0,2;");
        x.snow(1);
        linesOf("SNOW", x, row(2, 0, 1), 2, 2, 0, 1);
    }

    private static void linesOfSeveral() {
        // what comes BACK at beat 2 does not come BACK once more at beat 4
        lines("w0,7,60;f0,1,2;", row(1, 0, 1, 0, 1), 2, 1, 0, 0, 0, 1);
        // what is said at 0 and 1 comes BACK at 2 and 3
        lines("w0,7,60;f0,1,2;", row(1, 2, 1, 2, 0), 2, 1, 2, 0, 0, 0);
        lines("w0,7,60;f0,1,2;", row(1, 2, 1, 2, 3), 3, 1, 2, 0, 0, 3);
        lines("w0,7,60;s0;f0,9,2;h0;", row(1, 1, 1, 1), 2, 1, 1, 0, 0);
        lines("w0,7,60;s0;f0,9,2;h0;", row(1, 1, 1, 0), NONE);
        // all comes BACK 2 beats later and 4 beats later: two are enough
        lines("w0,7,60;f11,0,0;f12,0,0;", row(1, 1, 1, 1, 1, 1), 2, 1, 1, 0, 0, 0, 0);
        // at 3 both would do to be heard at 5: the later one is first, nothing being 0
        lines("w0,7,60;f11,0,0;", row(0, 2, 0, 2, 0, 2), 2, 0, 2, 0, 0, 0, 2);
    }

    private static void linesAsThingsStand() {
        EchoPaysRent x = new EchoPaysRent();
        Due.due("19: lines(0) without TALK", x.lines(0), NO);
        Due.due("19: lines(-1) without TALK", x.lines(-1), NO);
        Due.due("19: lines(9) without TALK", x.lines(9), NO);
        Due.due("19: lines(-2) without TALK", x.lines(-2), BAD);
        x.talk(1);
        Due.due("19: lines(-1)", x.lines(-1), 1);
        Due.due("19: lines(1)", x.lines(1), NONE);
        x.noTalk();
        Due.due("19: lines(-1) of no TALK", x.lines(-1), NO);
    }

    private static void second(String text, int x, int want) {
        Due.due("20: second(" + x + ") of " + text, Due.laid(text).second(x), want);
    }

    private static void second() {
        // as the SPEAKER, at the same beats: like ones do not blur
        second("w0,1,50;", 0, 0);
        second("w0,1,50;w1,2,50;w3,3,50;", 0, 0);
        second("w0,1,50;w0,1,50;", 40, 0);
        // from 5 and from 15 all comes 5 beats earlier and louder: the first WORDS clash at 10
        second("w0,1,50;w5,2,50;", 5, 1);
        second("w0,1,50;w5,2,50;", 15, 1);
        second("w0,1,50;w1,2,50;", 11, 0);
        // one that is not CLEAR alone is not with another play
        second("w0,1,50;w0,2,50;", 3, NONE);
        second("w0,1,10;", 3, NONE);
        second("w0,1,11;", 3, 0);
        // the other one's does not come
        second("w0,1,11;", 21, NONE);
        second("w0,1,11;", 20, 0);
        EchoPaysRent x = new EchoPaysRent();
        for (int yard : new int[] {-1, 41, Integer.MIN_VALUE, Integer.MAX_VALUE}) {
            Due.due("20: second(" + yard + ")", x.second(yard), BAD);
        }
    }

    private static void secondByCliffs() {
        // at 2 what comes BACK of the first masks the second, whoever says it
        second("w0,1,60;w2,2,9;w30,3,60;h0;f0,0,2;", 0, NONE);
        // unlike ones at all even beats to 14: the other one's fall on like ones, or between them
        second("w0,1,50;w2,2,50;w4,3,50;w6,4,50;w8,5,50;w10,6,50;w12,7,50;w14,1,50;", 11, 0);
        second("w0,1,50;w2,2,50;w4,3,50;w6,4,50;w8,5,50;w10,6,50;w12,7,50;w14,1,50;", 12, 1);
        // unlike ones at all beats to 6: the other one's, a beat on the way, wholly behind them
        second("w0,1,50;w1,2,50;w2,3,50;w3,4,50;w4,5,50;w5,6,50;w6,7,50;h0;", 1, 6);
        second("w0,1,50;w1,2,50;w2,3,50;w3,4,50;w4,5,50;w5,6,50;w6,7,50;h0;s40;", 0, 0);
        // 60 beats later and not earlier; 61 would be too late
        second("f19,4,3;f14,9,3;f13,2,2;f15,0,3;w13,3,50;w8,7,42;w15,1,31;w9,6,3;w1,5,5;w29,4,55;"
            + "w26,2,59;w18,5,8;s30;h29;", 31, 60);
        second("f5,2,3;f34,4,3;f22,6,3;w3,4,4;w0,6,17;w5,2,13;w29,5,59;w18,1,53;w27,5,57;w4,7,13;"
            + "w10,5,54;s19;h19;", 20, NONE);
    }

    private static void thick() {
        Due.due("21: thick()", Due.laid("w0,1,50;").thick(), 4);
        Due.due("21: 51", Due.laid("w0,1,51;").thick(), 5);
        Due.due("21: THE AIR told does not matter", Due.laid("w0,1,50;a9;").thick(), 4);
        Due.due("21: as weak as the air takes", Due.laid("w0,1,10;").thick(), NONE);
        Due.due("21: at the own yard", Due.laid("w0,1,1;h0;").thick(), 99);
        Due.due("21: one yard", Due.laid("w0,1,60;h1;").thick(), 59);
        Due.due("21: the weaker of two", Due.laid("w0,1,50;w1,1,30;").thick(), 2);
        Due.due("21: a BLUR", Due.laid("w0,1,50;w0,2,50;h0;").thick(), NONE);
        // what comes BACK at 2 is 58 LOUD by air 1, 56 by 2, 54 by 3: it masks 55 by the first two only
        Due.due("21: by each lower one", Due.laid("w0,1,60;w2,2,55;f1,0,0;h0;").thick(), NONE);
        Due.due("21: by the first one", Due.laid("w0,1,60;w2,2,57;f1,0,0;h0;").thick(), NONE);
        Due.due("21: by the lowest one", Due.laid("w0,1,60;w2,2,59;f1,0,0;h0;").thick(), 99);
        // the SNOW lies by every air
        EchoPaysRent x = Due.laid("w0,1,60;w2,2,55;f1,0,0;h0;");
        x.snow(1);
        Due.due("21: with SNOW", x.thick(), 99);
    }

    private static void heckle(String text, int x, int v, int loudness, int beat) {
        EchoPaysRent o = Due.laid(text);
        Due.due("22: heckle(" + x + ", " + v + ", 0) of " + text, o.heckle(x, v, 0), loudness);
        Due.due("22: heckle(" + x + ", " + v + ", 1) of " + text, o.heckle(x, v, 1), beat);
    }

    private static void heckle() {
        // heard at beat 10 as LOUD as 20
        heckle("w0,1,30;", 10, 2, 20, 10);
        heckle("w0,1,30;", 12, 2, 22, 8);
        heckle("w0,1,30;", 0, 2, 30, 0);
        heckle("w0,1,30;", 20, 2, 30, 0);
        // from 21 yards it would have to be said before beat 0
        heckle("w0,1,30;", 21, 2, NONE, NONE);
        heckle("w0,1,30;", 10, 1, NONE, NONE);
        // 60 is the loudest
        heckle("w30,1,30;", 40, 2, 50, 10);
        heckle("w30,1,40;", 40, 2, 60, 10);
        heckle("w30,1,41;", 40, 2, NONE, NONE);
        // the least beat of several, and the weaker of two
        heckle("w5,1,30;w2,3,30;", 10, 2, 20, 12);
        heckle("w5,1,29;w2,3,30;", 10, 2, 19, 15);
        heckle("w5,2,29;w2,3,30;", 10, 2, 20, 12);
        heckle("w5,2,29;w2,3,30;", 10, 3, 19, 15);
        // one that can be spoilt, and one said too late for it
        heckle("w0,1,60;w30,2,60;s40;h0;", 0, 3, 20, 40);
        heckle("w30,2,60;w0,1,60;s40;h0;", 0, 3, 20, 40);
        // one that is not CLEAR can't be spoilt
        heckle("w5,1,9;w2,3,30;", 10, 2, 20, 12);
        heckle("w5,1,9;", 10, 2, NONE, NONE);
        heckle("w5,1,29;w5,4,29;", 10, 2, NONE, NONE);
        // a like one that is louder hides the weaker: both are CLEAR, by 30
        heckle("w5,1,20;w5,1,40;", 10, 2, 30, 15);
        heckle("w30,7,60;s40;h0;", 40, 6, 60, 30);
        // at 70 it is heard: beat 60 from 10 yards, from 9 it would be 61
        heckle("w30,7,60;s40;h0;", 10, 6, 30, 60);
        heckle("w30,7,60;s40;h0;", 9, 6, NONE, NONE);
        heckle("w0,7,11;", 10, 6, 1, 10);
    }

    private static void heckleByCliffs() {
        // beat 0 is too early for the DIRECT one from 10, and the CLIFF's is later still
        heckle("w0,1,30;h0;", 1, 2, NONE, NONE);
        // LATE at once: as LOUD, two beats earlier
        heckle("w5,1,30;h0;f0,0,2;", 0, 2, 30, 3);
        heckle("w1,1,30;h0;f0,0,2;", 0, 2, 30, 1);
        heckle("w5,1,30;h0;f0,1,2;", 0, 2, 30, 5);
        // DOUBLE: 3 less LOUD, 4 beats later
        heckle("w5,1,30;h0;f0,0,3;", 0, 2, 30, 5);
        // only what comes BACK later can reach it, there is no other: from 3 said at 0
        heckle("w8,1,10;s0;h0;f3,0,0;", 0, 2, 10, 8);
        EchoPaysRent x = Due.laid("w5,1,30;h0;f0,0,2;");
        x.snow(1);
        Due.due("22: heckle(0, 2, 1) with SNOW", x.heckle(0, 2, 1), 5);
    }

    private static void heckleBad() {
        EchoPaysRent x = Due.laid("w0,1,10;");
        int[][] bad = {{-1, 1, 0}, {41, 1, 0}, {0, 0, 0}, {0, 8, 0}, {0, 1, -1}, {0, 1, 2},
            {Integer.MIN_VALUE, 1, 0}, {0, Integer.MAX_VALUE, 1}, {0, 1, Integer.MIN_VALUE}};
        for (int[] b : bad) {
            Due.due("22: heckle(" + b[0] + ", " + b[1] + ", " + b[2] + ")", x.heckle(b[0], b[1], b[2]), BAD);
        }
    }

    /** The plays are only thought of. */
    private static void nothingChanges() {
        EchoPaysRent x = Due.laid("w0,1,60;w9,2,60;f3,1,3;s7;h8;a2;");
        x.talk(1);
        x.leftOut();
        x.lines(0);
        x.second(4);
        x.thick();
        x.heckle(3, 3, 0);
        int[] counts = {1, 2, 7, 8, 2, 1, 0, 0, 0, 32};
        for (int what = 0; what < counts.length; what++) {
            Due.due("16 to 22: count(" + what + ")", x.count(what), counts[what]);
        }
        Due.due("16 to 22: face(0, 0)", x.face(0, 0), 3);
        Due.due("16 to 22: heard(8, 1)", x.heard(8, 1), 1);
    }
}
