/** HEARD, CLEAR, RENT, STAND, SIT, and promises 6 to 11: each sentence that names a bound. */
public final class HeardBoundsTest {
    private static final int BAD = EchoPaysRent.BAD;

    private HeardBoundsTest() {
    }

    public static void main(String[] args) {
        cliffsSuchAsThereAre();
        whatOfACliff();
        cliffsAtTheEnds();
        wordsSuchAsThereAre();
        whatOfAWord();
        wordsAtTheEnds();
        heardYardsAndBeats();
        heardAtTheEndsOfYards();
        heardAtTheLastBeats();
        loudByNothingDoesNotCome();
        thickestAndThinnestAir();
        fullestDull();
        asLoudAsEachOther();
        oneLouderThanABlur();
        likeOnesByManyWays();
        byNineWays();
        snowOnNoneAndAll();
        clearYards();
        clearOfNoneAndAll();
        clearOnlyWhereItComesDirect();
        rentOfNoneAndAll();
        rentOnlyOfWhatComes();
        placeWhat();
        standAtTheEnds();
        standOfMoreRent();
        standWhereNoneIsClear();
        sitAtTheEnds();
        sitWhereNoneIsClear();
        placeOfAll();
        placeAsThingsStand();
        Due.finish("HeardBoundsTest");
    }

    private static void hears(String text, int y, int b, int want) {
        Due.due("8: heard(" + y + ", " + b + ") of " + text, Due.laid(text).heard(y, b), want);
    }

    // ---- 6

    private static void cliffsSuchAsThereAre() {
        for (int cliffs = 1; cliffs <= 4; cliffs++) {
            EchoPaysRent x = Due.laid("f40,9,3;".repeat(cliffs) + "w1,1,1;");
            Due.ends("6: face(f, 0) of " + cliffs, 0, cliffs - 1, f -> x.face(f, 0));
            Due.ends("6: face(f, 3) of " + cliffs, 0, cliffs - 1, f -> x.face(f, 3));
        }
        EchoPaysRent none = Due.laid("w1,1,1;");
        for (int f : new int[] {0, 1, -1, Integer.MIN_VALUE, Integer.MAX_VALUE}) {
            Due.due("6: face(" + f + ", 0) of none", none.face(f, 0), BAD);
            Due.due("6: face(" + f + ", 3) of none", none.face(f, 3), BAD);
        }
    }

    private static void whatOfACliff() {
        EchoPaysRent x = new EchoPaysRent();
        Due.ends("6: face(0, what)", 0, 3, what -> x.face(0, what));
        Due.due("6: both are none", x.face(1, 4), BAD);
        Due.due("6: both are far off", x.face(Integer.MIN_VALUE, Integer.MAX_VALUE), BAD);
    }

    private static void cliffsAtTheEnds() {
        EchoPaysRent x = Due.laid("f0,0,0;f40,9,3;w1,1,1;");
        for (int what = 0; what < 4; what++) {
            Due.due("6: the least, " + what, x.face(0, what), 0);
        }
        int[] most = {40, 9, 3, 0};
        for (int what = 0; what < 4; what++) {
            Due.due("6: the greatest, " + what, x.face(1, what), most[what]);
        }
        x.snow(2);
        Due.due("6: SNOW on the last alone", x.face(1, 3), 1);
        Due.due("6: none on the first", x.face(0, 3), 0);
    }

    // ---- 7

    private static void wordsSuchAsThereAre() {
        for (int words = 1; words <= 8; words++) {
            EchoPaysRent x = Due.laid("w30,7,60;".repeat(words));
            Due.ends("7: word(w, 0) of " + words, 0, words - 1, w -> x.word(w, 0));
            Due.ends("7: word(w, 3) of " + words, 0, words - 1, w -> x.word(w, 3));
        }
        EchoPaysRent x = new EchoPaysRent();
        x.say(1, 1, 1);
        Due.due("7: the one that was told", x.word(2, 0), 1);
        Due.due("7: the next", x.word(3, 0), BAD);
        x.undo();
        Due.due("7: the one UNDONE", x.word(2, 0), BAD);
    }

    private static void whatOfAWord() {
        EchoPaysRent x = new EchoPaysRent();
        Due.ends("7: word(1, what)", 0, 3, what -> x.word(1, what));
        Due.due("7: both are none", x.word(2, 4), BAD);
        Due.due("7: both are far off", x.word(Integer.MAX_VALUE, Integer.MIN_VALUE), BAD);
    }

    private static void wordsAtTheEnds() {
        EchoPaysRent x = Due.laid("w0,1,1;w30,7,60;s40;h0;");
        int[] least = {0, 1, 1, 0};
        int[] most = {30, 7, 60, 1};
        for (int what = 0; what < 4; what++) {
            Due.due("7: the least, " + what, x.word(0, what), least[what]);
            Due.due("7: the greatest, " + what, x.word(1, what), most[what]);
        }
        // CLEAR to the HEARER, not at the SPEAKER's yard
        x.go(1, 40);
        Due.due("7: the least is CLEAR to the HEARER here", x.word(0, 3), 1);
        x.go(1, 39);
        Due.due("7: and not a yard off", x.word(0, 3), 0);
    }

    // ---- 8

    private static void heardYardsAndBeats() {
        EchoPaysRent x = new EchoPaysRent();
        Due.ends("8: heard(y, 0)", 0, 40, y -> x.heard(y, 0));
        Due.ends("8: heard(y, 149)", 0, 40, y -> x.heard(y, 149));
        Due.ends("8: heard(0, b)", 0, 149, b -> x.heard(0, b));
        Due.ends("8: heard(40, b)", 0, 149, b -> x.heard(40, b));
        Due.due("8: both are none", x.heard(41, 150), BAD);
        Due.due("8: both are far off", x.heard(Integer.MIN_VALUE, Integer.MAX_VALUE), BAD);
    }

    private static void heardAtTheEndsOfYards() {
        hears("w0,1,60;s0;", 0, 0, 1);
        hears("w0,1,60;s0;", 40, 40, 1);
        hears("w0,1,60;s40;", 40, 0, 1);
        hears("w0,1,60;s40;", 0, 40, 1);
        // by the CLIFF at the other end: 59 yards, as LOUD as 1; 60 are too far
        hears("w0,1,60;f40,0,0;", 21, 59, 1);
        hears("w0,1,60;f40,0,0;", 20, 60, 0);
        hears("w0,1,60;s40;f0,0,0;", 19, 59, 1);
        hears("w0,1,60;s40;f0,0,0;", 20, 60, 0);
    }

    /** Beat 30 and 59 yards, two more by a LATE CLIFF; 56 yards and four beats more by a DOUBLE one. */
    private static void heardAtTheLastBeats() {
        hears("w30,7,60;f40,0,0;", 21, 89, 7);
        hears("w30,7,60;f40,0,2;", 21, 91, 7);
        hears("w30,7,60;f40,0,2;", 21, 89, 0);
        hears("w30,7,60;f40,0,2;", 20, 92, 0);
        hears("w30,7,60;f40,0,3;", 24, 86, 7);
        hears("w30,7,60;f40,0,3;", 24, 90, 7);
        hears("w30,7,60;f40,0,3;", 23, 87, 7);
        hears("w30,7,60;f40,0,3;", 23, 91, 0);
        EchoPaysRent x = Due.laid("w30,7,60;f40,0,2;f40,0,3;f0,0,3;f39,0,2;");
        for (int b = 92; b <= 149; b++) {
            for (int y = 0; y <= 40; y += 8) {
                Due.due("8: heard(" + y + ", " + b + ") behind all", x.heard(y, b), 0);
            }
        }
    }

    /** By each way: as LOUD as 1 it comes, by 0 and by less it does not. From 0 by a CLIFF at 1 to 0: 2 yards. */
    private static void loudByNothingDoesNotCome() {
        hears("w0,5,1;", 0, 0, 5);
        hears("w0,5,1;", 1, 1, 0);
        hears("w0,5,2;", 1, 1, 5);
        hears("w0,5,1;", 40, 40, 0);
        String[] kinds = {"f1,9,0;", "f1,9,1;", "f1,9,2;", "f1,9,3;"};
        int[] least = {12, 21, 12, 12};
        int[] beats = {2, 2, 4, 2};
        for (int k = 0; k < 4; k++) {
            hears("w0,5," + least[k] + ";" + kinds[k], 0, beats[k], 5);
            hears("w0,5," + (least[k] - 1) + ";" + kinds[k], 0, beats[k], 0);
            hears("w0,5,1;" + kinds[k], 0, beats[k], 0);
        }
        // once more, 3 less LOUD
        hears("w0,5,15;f1,9,3;", 0, 6, 5);
        hears("w0,5,14;f1,9,3;", 0, 6, 0);
        hears("w0,5,13;f1,9,3;", 0, 6, 0);
    }

    private static void thickestAndThinnestAir() {
        hears("w0,5,60;a9;", 6, 6, 5);
        hears("w0,5,60;a9;", 7, 7, 0);
        hears("w0,5,41;a1;", 40, 40, 5);
        hears("w0,5,40;a1;", 40, 40, 0);
        // no air takes anything at the own yard
        hears("w0,5,1;a9;", 0, 0, 5);
        hears("w0,5,10;f0,9,2;a9;", 0, 2, 5);
    }

    /** DULL by 9 takes 9, by a SOFT one 18, DULL by 0 nothing. */
    private static void fullestDull() {
        hears("w0,5,10;f0,9,2;", 0, 2, 5);
        hears("w0,5,9;f0,9,2;", 0, 2, 0);
        hears("w0,5,1;f0,0,2;", 0, 2, 5);
        hears("w0,5,13;f0,9,3;", 0, 4, 5);
        hears("w0,5,12;f0,9,3;", 0, 4, 0);
        hears("w0,5,4;f0,0,3;", 0, 4, 5);
        hears("w0,5,3;f0,0,3;", 0, 4, 0);
        // BACK from the SOFT one, 2 yards on, it is as LOUD as 40
        hears("w0,5,60;w2,6,40;f1,9,1;", 0, 2, 8);
        hears("w0,5,60;w2,6,41;f1,9,1;", 0, 2, 6);
        hears("w0,5,60;w2,6,39;f1,9,1;", 0, 2, 5);
    }

    private static void asLoudAsEachOther() {
        hears("w0,1,60;w0,7,60;", 40, 40, 8);
        hears("w0,1,1;w0,7,1;", 0, 0, 8);
        hears("w0,7,60;w0,7,60;", 40, 40, 7);
        hears("w0,1,60;w0,7,59;", 40, 40, 1);
        hears("w0,1,59;w0,7,60;", 40, 40, 7);
        // all seven, and one of them twice
        hears("w0,1,9;w0,2,9;w0,3,9;w0,4,9;w0,5,9;w0,6,9;w0,7,9;w0,7,9;", 0, 0, 8);
        hears("w0,7,9;".repeat(8), 0, 0, 7);
        // a beat apart they do not meet
        hears("w0,1,60;w1,7,60;", 40, 40, 1);
        hears("w0,1,60;w1,7,60;", 40, 41, 7);
    }

    private static void oneLouderThanABlur() {
        hears("w0,1,9;w0,2,9;w0,3,10;", 0, 0, 3);
        hears("w0,3,10;w0,1,9;w0,2,9;", 0, 0, 3);
        hears("w0,1,9;w0,3,10;w0,2,9;", 0, 0, 3);
        hears("w0,1,9;w0,2,9;w0,1,10;", 0, 0, 1);
        hears("w0,1,9;w0,2,9;w0,3,8;", 0, 0, 8);
        // two BLURS, the louder one of unlike ones too
        hears("w0,1,9;w0,2,9;w0,3,10;w0,4,10;", 0, 0, 8);
        hears("w0,1,9;w0,2,9;w0,3,10;w0,3,10;", 0, 0, 3);
    }

    /** One WORD by many ways at one beat is no BLUR; by four CLIFFS at one yard it comes four times. */
    private static void likeOnesByManyWays() {
        hears("w0,4,60;f5,0,0;f5,0,0;f5,0,1;f5,0,3;", 0, 10, 4);
        hears("w0,4,60;f5,0,0;f6,0,0;f7,0,0;f8,0,0;", 9, 9, 4);
        hears("w0,4,60;w0,4,60;f5,0,0;", 9, 9, 4);
        hears("w0,4,60;w10,5,50;f5,0,0;", 0, 10, 8);
    }

    /** DIRECT, and from each of four DOUBLE CLIFFS twice: the last way counts as the first does. */
    private static void byNineWays() {
        EchoPaysRent x = Due.laid("w0,4,60;h0;f1,0,3;f4,0,3;f7,0,3;f10,0,3;");
        int[] beats = {0, 2, 6, 8, 12, 14, 18, 20, 24};
        for (int b : beats) {
            Due.due("8: heard(0, " + b + ") by nine ways", x.heard(0, b), 4);
            Due.due("8: heard(0, " + (b + 1) + ") by none", x.heard(0, b + 1), 0);
        }
    }

    private static void snowOnNoneAndAll() {
        EchoPaysRent x = Due.laid("w0,4,60;f1,0,0;f2,0,0;f3,0,0;f4,0,0;");
        for (int set = 0; set <= 15; set++) {
            x.snow(set);
            for (int f = 0; f < 4; f++) {
                boolean snowy = (set >> f & 1) == 1;
                Due.due("8: BACK from " + f + " with SNOW on " + set, x.heard(0, 2 * f + 2), snowy ? 0 : 4);
            }
            Due.due("8: DIRECT with SNOW on " + set, x.heard(0, 0), 4);
        }
    }

    // ---- 9

    private static void clearYards() {
        EchoPaysRent x = new EchoPaysRent();
        Due.ends("9: clear(y)", 0, 40, y -> x.clear(y));
    }

    private static void clearOfNoneAndAll() {
        Due.due("9: all eight at the own yard", Due.laid("w0,1,1;".repeat(8)).clear(0), 8);
        Due.due("9: none a yard off", Due.laid("w0,1,1;".repeat(8)).clear(1), 0);
        Due.due("9: all eight at the other end", Due.laid("w30,7,60;".repeat(8) + "s40;").clear(0), 8);
        Due.due("9: as LOUD as 41", Due.laid("w0,1,41;").clear(40), 1);
        Due.due("9: as LOUD as 40", Due.laid("w0,1,40;").clear(40), 0);
        Due.due("9: all in a BLUR", Due.laid("w0,1,9;w0,2,9;w0,3,9;w0,4,9;").clear(0), 0);
    }

    /** At 20 the first comes BACK at 20, when the second would come DIRECT, but it is too weak. */
    private static void clearOnlyWhereItComesDirect() {
        EchoPaysRent x = Due.laid("w0,1,60;w20,1,10;f20,0,0;s10;");
        Due.due("9: at 20", x.clear(20), 1);
        Due.due("9: at 19", x.clear(19), 2);
        Due.due("7: to the HEARER, at 10", x.word(1, 3), 1);
        x.go(1, 20);
        Due.due("7: to the HEARER, at 20", x.word(1, 3), 0);
        // DIRECT and heard at 10 beats, but not as what it is
        Due.due("9: masked by its own V", Due.laid("w0,1,50;w0,1,60;").clear(10), 2);
        Due.due("9: masked by another one", Due.laid("w0,2,50;w0,1,60;").clear(10), 1);
    }

    // ---- 10

    private static void rentOfNoneAndAll() {
        Due.due("10: without CLIFFS", Due.laid("w0,1,60;".repeat(8)).rent(), 0);
        Due.due("10: all eight", Due.laid("w0,1,60;".repeat(8) + "f0,0,0;").rent(), 8);
        Due.due("10: all eight by four DOUBLE ones", Due.laid("w30,7,60;".repeat(8) + "f1,0,3;".repeat(4)).rent(), 8);
        Due.due("10: one", Due.laid("w0,1,60;f1,0,0;").rent(), 1);
        EchoPaysRent x = Due.laid("w0,1,60;f0,0,0;f1,0,0;");
        x.snow(3);
        Due.due("10: SNOW on all", x.rent(), 0);
        x.snow(1);
        Due.due("10: SNOW on one", x.rent(), 1);
    }

    private static void rentOnlyOfWhatComes() {
        Due.due("10: as LOUD as 1", Due.laid("w0,1,12;f1,9,0;").rent(), 1);
        Due.due("10: as LOUD as 0", Due.laid("w0,1,11;f1,9,0;").rent(), 0);
        Due.due("10: 58 yards, as LOUD as 1", Due.laid("w0,1,59;f29,0,0;").rent(), 1);
        Due.due("10: 58 yards, as LOUD as 0", Due.laid("w0,1,58;f29,0,0;").rent(), 0);
        // what is HEARD by another WORD of that V pays only for those that come BACK
        Due.due("10: a like one DIRECT", Due.laid("w0,1,11;w2,1,60;f1,9,0;").rent(), 1);
        Due.due("10: two like ones", Due.laid("w0,1,12;w2,1,60;f1,9,0;").rent(), 2);
        // BACK at a beat in which another V is HEARD as LOUD: a BLUR pays nothing
        Due.due("10: a BLUR", Due.laid("w0,1,12;w2,2,1;f1,9,0;").rent(), 0);
    }

    // ---- 11

    private static void placeWhat() {
        EchoPaysRent x = new EchoPaysRent();
        Due.ends("11: place(what)", 0, 3, what -> x.place(what));
    }

    private static void place(String text, int... due) {
        EchoPaysRent x = Due.laid(text);
        for (int what = 0; what < 4; what++) {
            Due.due("11: place(" + what + ") of " + text, x.place(what), due[what]);
        }
    }

    private static void standAtTheEnds() {
        place("w0,1,1;h0;", 0, 1, 0, 1);
        place("w0,1,1;h40;", 40, 1, 0, 1);
        // CLEAR from everywhere: the lowest
        place("w0,1,41;h40;", 0, 1, 0, 1);
        // from 0 it is too far
        place("w0,1,40;h40;", 1, 1, 0, 1);
        // as LOUD as 2: 39, 40 and 41, which there is not
        place("w0,1,2;h40;", 39, 1, 0, 1);
    }

    private static void standOfMoreRent() {
        // all yards do; RENT only at the CLIFF
        place("w0,1,60;f40,0,0;h40;a9;", 37, 1, 0, 1);
        place("w0,1,10;f40,9,0;h40;", 40, 1, 0, 1);
        place("w0,1,50;w20,2,11;f40,9,0;h40;", 40, 2, 0, 2);
        // of more RENT, but of fewer that are CLEAR
        place("w0,1,5;f20,0,0;h0;", 0, 1, 0, 1);
    }

    /**
     * The first two are a BLUR. BACK from the LATE CLIFF, which stands where the HEARER sits, they
     * mask the third from wherever it is said; within 2 yards it pays RENT.
     */
    private static void standWhereNoneIsClear() {
        place("w0,1,50;w0,2,50;w2,3,5;f20,0,2;h20;", 18, 0, 0, 1);
        place("w0,1,50;w0,2,50;w2,3,1;f20,0,2;h20;", 20, 0, 0, 1);
        place("w0,1,50;w0,2,50;h20;", 0, 0, 0, 0);
    }

    private static void sitAtTheEnds() {
        place("w0,1,1;s0;", 10, 1, 0, 1);
        place("w0,1,1;s40;", 10, 1, 40, 1);
        place("w0,1,41;s40;", 0, 1, 0, 1);
        place("w0,1,40;s40;", 0, 1, 1, 1);
        place("w0,1,2;s40;h40;", 39, 1, 39, 1);
    }

    private static void sitWhereNoneIsClear() {
        place("w0,1,60;w0,2,60;s40;h40;", 0, 0, 0, 0);
        // the weaker one nowhere, the louder one everywhere
        place("w0,1,60;w0,2,59;s40;h40;", 0, 1, 0, 1);
    }

    private static void placeAsThingsStand() {
        EchoPaysRent x = Due.laid("w0,1,5;f7,0,0;s40;h40;");
        x.go(1, 7);
        Due.due("11: the HEARER has gone", x.place(0), 5);
        x.snow(1);
        Due.due("11: SNOW, no RENT", x.place(0), 3);
        x.go(0, 9);
        Due.due("11: the SPEAKER has gone", x.place(2), 5);
        x.say(9, 3, 60);
        Due.due("11: how many to whom he goes", x.place(1), 2);
        Due.due("11: how many where he sits", x.place(3), 2);
        x.undo();
        Due.due("11: one less", x.place(3), 1);
    }

    private static void placeOfAll() {
        place("w30,7,60;".repeat(8) + "s40;h40;", 0, 8, 0, 8);
        place("w30,7,60;".repeat(8) + "s40;h40;f40,0,0;", 11, 8, 0, 8);
    }
}
