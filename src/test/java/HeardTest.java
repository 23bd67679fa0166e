/** Promises 8 to 11: heard, clear, rent, place. */
public final class HeardTest {
    private static final int BAD = EchoPaysRent.BAD;

    private HeardTest() {
    }

    public static void main(String[] args) {
        direct();
        backByKinds();
        loudnessByKinds();
        snowIsSilent();
        maskedAndBlurred();
        heardBad();
        clear();
        rent();
        stand();
        sit();
        placeBad();
        Due.finish("HeardTest");
    }

    /** Due at yard y: these values at these beats (pairs), and nothing at all others. */
    private static void hears(String text, int y, int... pairs) {
        EchoPaysRent x = Due.laid(text);
        hears(text, x, y, pairs);
    }

    private static void hears(String text, EchoPaysRent x, int y, int... pairs) {
        int[] due = new int[150];
        for (int i = 0; i < pairs.length; i += 2) {
            due[pairs[i]] = pairs[i + 1];
        }
        for (int b = 0; b < 150; b++) {
            Due.due("8: heard(" + y + ", " + b + ") of " + text, x.heard(y, b), due[b]);
        }
    }

    private static void direct() {
        hears("w3,5,60;", 10, 13, 5);
        hears("w3,5,60;s40;", 10, 33, 5);
        hears("w30,7,60;s40;", 0, 70, 7);
        hears("w3,5,60;s10;", 10, 3, 5);
        // 60 less 3 times 20 is 0: it does not come
        hears("w3,5,60;s30;a3;", 10);
        hears("w3,5,60;s29;a3;", 10, 22, 5);
    }

    private static void backByKinds() {
        // from 5 to 15 and back to 10: 15 yards
        hears("w0,4,60;s5;f15,0,0;", 10, 5, 4, 15, 4);
        hears("w0,4,60;s5;f15,0,1;", 10, 5, 4, 15, 4);
        hears("w0,4,60;s5;f15,0,2;", 10, 5, 4, 17, 4);
        hears("w0,4,60;s5;f15,0,3;", 10, 5, 4, 15, 4, 19, 4);
        // a CLIFF between them gives back at the same beat, behind the SPEAKER too
        hears("w0,4,60;s5;f7,0,0;", 10, 5, 4);
        hears("w0,4,60;s5;f1,0,0;", 10, 5, 4, 13, 4);
        hears("w2,4,60;s5;f15,0,3;f0,0,2;", 10, 7, 4, 17, 4, 21, 4, 19, 4);
        // nine ways: DIRECT, and twice from each of four
        hears("w0,4,60;s10;f11,0,3;f13,0,3;f20,0,3;f24,0,3;", 10, 0, 4, 2, 4, 6, 4, 10, 4, 20, 4, 24, 4, 28, 4, 32, 4);
    }

    private static void loudnessByKinds() {
        // 15 yards of air 2 take 30, each CLIFF what it is DULL by: what is left comes
        hears("w0,4,40;s5;a2;f15,9,0;", 10, 5, 4, 15, 4);
        hears("w0,4,39;s5;a2;f15,9,0;", 10, 5, 4);
        hears("w0,4,40;s5;a2;f15,9,2;", 10, 5, 4, 17, 4);
        hears("w0,4,39;s5;a2;f15,9,2;", 10, 5, 4);
        hears("w0,4,49;s5;a2;f15,9,1;", 10, 5, 4, 15, 4);
        hears("w0,4,48;s5;a2;f15,9,1;", 10, 5, 4);
        hears("w0,4,43;s5;a2;f15,9,3;", 10, 5, 4, 15, 4, 19, 4);
        hears("w0,4,42;s5;a2;f15,9,3;", 10, 5, 4, 15, 4);
        hears("w0,4,39;s5;a2;f15,9,3;", 10, 5, 4);
        hears("w0,4,31;s5;a2;f15,0,1;", 10, 5, 4, 15, 4);
        hears("w0,4,30;s5;a2;f15,0,1;", 10, 5, 4);
    }

    private static void snowIsSilent() {
        hears("no SNOW", snowy(0), 10, 5, 4, 15, 4, 19, 4);
        hears("SNOW on 0", snowy(1), 10, 5, 4, 15, 4);
        hears("SNOW on 1", snowy(2), 10, 5, 4, 15, 4, 19, 4);
        hears("SNOW on both", snowy(3), 10, 5, 4);
    }

    private static EchoPaysRent snowy(int set) {
        EchoPaysRent x = Due.laid("w0,4,60;s5;f15,0,3;f0,0,0;");
        x.snow(set);
        return x;
    }

    private static void maskedAndBlurred() {
        hears("w0,1,30;w0,2,31;", 10, 10, 2);
        hears("w0,2,31;w0,1,30;", 10, 10, 2);
        hears("w0,1,31;w0,2,31;", 10, 10, 8);
        hears("w0,1,31;w0,1,31;", 10, 10, 1);
        // like ones stay a BLUR with an unlike one, a louder one masks it
        hears("w0,1,31;w0,2,31;w0,2,31;", 10, 10, 8);
        hears("w0,1,31;w0,2,31;w0,1,31;", 10, 10, 8);
        hears("w0,1,31;w0,2,31;w0,1,32;", 10, 10, 1);
        hears("w0,1,32;w0,2,31;w0,3,31;", 10, 10, 1);
        // what comes BACK masks as well: 20 yards at 60 less 20, then 20 at 40 less 0
        hears("w0,1,60;w20,2,40;s10;f20,0,0;", 10, 0, 1, 20, 8, 40, 2);
        hears("w0,1,60;w20,2,41;s10;f20,0,0;", 10, 0, 1, 20, 2, 40, 2);
        hears("w0,1,60;w20,2,39;s10;f20,0,0;", 10, 0, 1, 20, 1, 40, 2);
        // one that does not come blurs nothing
        hears("w0,1,10;w0,2,10;", 10);
    }

    private static void heardBad() {
        EchoPaysRent x = new EchoPaysRent();
        int[][] bad = {{-1, 0}, {41, 0}, {0, -1}, {0, 150}, {Integer.MIN_VALUE, 0}, {0, Integer.MAX_VALUE}};
        for (int[] b : bad) {
            Due.due("8: heard(" + b[0] + ", " + b[1] + ")", x.heard(b[0], b[1]), BAD);
        }
        Due.due("8: heard(40, 149)", x.heard(40, 149), 0);
        Due.due("8: heard(40, 40)", x.heard(40, 40), 1);
        Due.due("8: heard(0, 0)", x.heard(0, 0), 1);
    }

    private static void clear() {
        EchoPaysRent x = Due.laid("w0,1,20;w1,2,11;w2,3,1;");
        int[] due = {3, 2, 2};
        for (int y = 0; y < due.length; y++) {
            Due.due("9: clear(" + y + ")", x.clear(y), due[y]);
        }
        Due.due("9: clear(10)", x.clear(10), 2);
        Due.due("9: clear(11)", x.clear(11), 1);
        Due.due("9: clear(19)", x.clear(19), 1);
        Due.due("9: clear(20)", x.clear(20), 0);
        Due.due("9: clear(-1)", x.clear(-1), BAD);
        Due.due("9: clear(41)", x.clear(41), BAD);
        Due.due("9: clear(40)", x.clear(40), 0);
        Due.due("9: BLUR", Due.laid("w0,1,50;w0,2,50;").clear(10), 0);
        Due.due("9: masked", Due.laid("w0,1,50;w0,2,51;").clear(10), 1);
        // masked by another one of its own V it is still CLEAR
        Due.due("9: like ones", Due.laid("w0,1,50;w0,1,51;").clear(10), 2);
        // heard by what comes BACK only, without coming DIRECT, it is not CLEAR
        Due.due("9: not DIRECT", Due.laid("w0,1,60;w20,1,10;f20,0,0;s10;h21;").clear(20), 1);
    }

    private static void rent() {
        // the own yard is 10 yards off the CLIFF: BACK at 20, as LOUD as 20 less
        Due.due("10: comes BACK", Due.laid("w0,1,21;s10;f20,0,0;").rent(), 1);
        Due.due("10: does not", Due.laid("w0,1,20;s10;f20,0,0;").rent(), 0);
        Due.due("10: no CLIFF", Due.laid("w0,1,60;").rent(), 0);
        Due.due("10: masked", Due.laid("w0,1,60;w20,2,41;s10;f20,0,0;").rent(), 1);
        Due.due("10: a BLUR", Due.laid("w0,1,60;w20,2,40;s10;f20,0,0;").rent(), 1);
        Due.due("10: not masked", Due.laid("w0,1,60;w20,2,39;s10;f20,0,0;").rent(), 2);
        // masked by a like one, V is HEARD all the same
        Due.due("10: a like one", Due.laid("w0,1,60;w20,1,60;s10;f20,0,0;").rent(), 2);
        // the first time masked, once more heard: 24, 3 less LOUD
        Due.due("10: DOUBLE", Due.laid("w0,1,24;w20,2,24;s10;f20,0,3;").rent(), 2);
        Due.due("10: DOUBLE, too weak", Due.laid("w0,1,23;w20,2,23;s10;f20,0,3;").rent(), 1);
        // two CLIFFS: each WORD once
        Due.due("10: two CLIFFS", Due.laid("w0,1,60;s10;f20,0,0;f0,0,2;").rent(), 1);
        // a CLIFF at the own yard gives back at once
        Due.due("10: at the CLIFF", Due.laid("w0,1,10;f0,9,0;").rent(), 1);
        Due.due("10: at the CLIFF, DULL", Due.laid("w0,1,9;f0,9,0;").rent(), 0);
        EchoPaysRent x = new EchoPaysRent();
        x.snow(1);
        Due.due("10: SNOW", x.rent(), 0);
        x.snow(0);
        x.go(1, 40);
        Due.due("10: the HEARER does not matter", x.rent(), 2);
        x.go(0, 40);
        Due.due("10: the SPEAKER does", x.rent(), 2);
        Due.due("10: far off", Due.laid("w0,1,48;f30,0,0;s6;").rent(), 0);
        Due.due("10: less far off", Due.laid("w0,1,48;f30,0,0;s7;").rent(), 1);
    }

    private static void place(String text, int... due) {
        EchoPaysRent x = Due.laid(text);
        int speaker = x.count(2);
        int hearer = x.count(3);
        for (int what = 0; what < 4; what++) {
            Due.due("11: place(" + what + ") of " + text, x.place(what), due[what]);
        }
        Due.due("11: the SPEAKER stays", x.count(2), speaker);
        Due.due("11: the HEARER stays", x.count(3), hearer);
        Due.due("11: nothing to be UNDONE", x.count(7), 0);
    }

    private static void stand() {
        // as LOUD as 5: within 4 yards of the other one
        place("w0,1,5;s9;h20;", 16, 1, 5, 1);
        place("w0,1,5;s2;h2;", 0, 1, 0, 1);
        place("w0,1,5;w1,2,3;s30;h30;", 28, 2, 28, 2);
        // of several the one of more RENT: within 1 yard of the CLIFF at 22
        place("w0,1,3;s9;h20;f22,0,0;", 21, 1, 7, 1);
        // as LOUD as 5 it comes BACK from 20 on; the weaker one is masked and pays nothing
        place("w0,1,5;w0,2,4;s9;h20;f22,0,0;", 20, 1, 5, 1);
        place("w0,1,1;s9;h40;", 40, 1, 9, 1);
        place("w0,1,1;s40;h9;", 9, 1, 40, 1);
        // RENT counts for nothing against what is CLEAR
        place("w0,1,9;s9;h0;f40,0,0;", 0, 1, 1, 1);
    }

    private static void sit() {
        // 0 to 4 hear the first, and all as LOUD at one beat is a BLUR
        place("w0,1,5;w0,2,5;", 0, 0, 0, 0);
        // both come BACK to the SPEAKER from 6 on
        place("w0,1,60;w10,2,50;s20;f30,0,0;", 6, 2, 0, 2);
        EchoPaysRent x = Due.laid("w0,1,60;w20,2,40;s10;f20,0,0;h10;");
        int best = 0;
        for (int y = 40; y >= 0; y--) {
            best = x.clear(y) >= x.clear(best) ? y : best;
        }
        Due.due("11: place(2) by clear", x.place(2), best);
        Due.due("11: place(3) by clear", x.place(3), x.clear(best));
    }

    private static void placeBad() {
        EchoPaysRent x = new EchoPaysRent();
        for (int what : new int[] {-1, 4, Integer.MIN_VALUE, Integer.MAX_VALUE}) {
            Due.due("11: place(" + what + ")", x.place(what), BAD);
        }
    }
}
