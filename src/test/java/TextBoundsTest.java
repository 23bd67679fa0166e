import java.nio.charset.StandardCharsets;

/** What It Is, LAID, and promises 1 to 5: each sentence that names a bound. */
public final class TextBoundsTest {
    private static final int BAD = EchoPaysRent.BAD, NO = EchoPaysRent.NO;
    private static final int FULL = EchoPaysRent.FULL, NONE = EchoPaysRent.NONE;

    private TextBoundsTest() {
    }

    public static void main(String[] args) {
        newObjectIsAsTold();
        newObjectHasNothingYet();
        fiveHundredAndTwelveCalls();
        writeOneToEight();
        writeTheLowestBytes();
        writeTheFarthestLongs();
        writeThreeHundred();
        writeFullByEachLength();
        writeBadBeforeFull();
        wipeOfNothing();
        wipeOfThreeHundred();
        wipeLeavesNothing();
        faultOfNothing();
        faultOfThreeHundred();
        lettersOfItems();
        signsBetweenNumbers();
        oneOrTwoFigures();
        numbersOfCliffs();
        numbersOfWords();
        numbersOfTheOthers();
        fourCliffs();
        eightWords();
        placeOfTheFault();
        textsCutShort();
        textsOfHalfItems();
        ofSeveralTheLast();
        layOfNoWord();
        layOfOneAndEightWords();
        layOfAFault();
        layOfThreeHundred();
        layTwice();
        layLeavesNothing();
        Due.finish("TextBoundsTest");
    }

    private static void fault(String text, int want) {
        Due.due("4: fault() of " + text, Due.withText(text).fault(), want);
    }

    /** An object with so many bytes of good ITEMS in THE TEXT, the last one cut. */
    private static EchoPaysRent filled(int bytes) {
        EchoPaysRent x = Due.withText("a1;".repeat(100).substring(0, bytes));
        Due.due("2: so many bytes", x.count(9), bytes);
        return x;
    }

    // ---- 1

    private static void newObjectIsAsTold() {
        EchoPaysRent x = new EchoPaysRent();
        EchoPaysRent told = Due.laid("f20,2,0;w0,1,50;w3,2,50;");
        told.wipe();
        for (int what = 0; what < 10; what++) {
            Due.due("1: count(" + what + ")", x.count(what), told.count(what));
        }
        for (int what = 0; what < 4; what++) {
            Due.due("1: face(0, " + what + ")", x.face(0, what), told.face(0, what));
            Due.due("1: word(0, " + what + ")", x.word(0, what), told.word(0, what));
            Due.due("1: word(1, " + what + ")", x.word(1, what), told.word(1, what));
        }
        Due.due("1: no second CLIFF", x.face(1, 0), BAD);
        Due.due("1: no third WORD", x.word(2, 0), BAD);
    }

    private static void newObjectHasNothingYet() {
        Due.due("1: THE TEXT is empty", new EchoPaysRent().wipe(), 0);
        Due.due("1: nothing can be LAID", new EchoPaysRent().lay(), NO);
        Due.due("1: nothing can be UNDONE", new EchoPaysRent().undo(), NO);
        Due.due("1: no TALK", new EchoPaysRent().noTalk(), 0);
        Due.due("1: no EARS", new EchoPaysRent().noEars(), 0);
        Due.due("1: nothing is KEPT", new EchoPaysRent().back(), NO);
        Due.due("1: no SNOW", new EchoPaysRent().snow(1), 0);
    }

    /** The last calls of an object's use answer as the first ones do. */
    private static void fiveHundredAndTwelveCalls() {
        EchoPaysRent x = new EchoPaysRent();
        Due.due("call 1: go(1, 1)", x.go(1, 1), 10);
        Due.due("call 2: go(0, 2)", x.go(0, 2), 0);
        for (int call = 3; call <= 510; call++) {
            Due.due("call " + call + ": go", x.go(call % 2, call % 41), (call - 2) % 41);
        }
        Due.due("call 511: undo()", x.undo(), 7);
        Due.due("call 512: count(2)", x.count(2), 508 % 41);
    }

    // ---- 2

    private static void writeOneToEight() {
        Due.ends("2: write(n, 0)", 1, 8, n -> new EchoPaysRent().write(n, 0));
        for (int n = 1; n <= 8; n++) {
            Due.due("2: write(" + n + ", 0)", new EchoPaysRent().write(n, 0), n);
        }
    }

    private static void writeTheLowestBytes() {
        String text = "f12,3,1;w10,7,60;s33;h4;a2;w1,2,3;";
        byte[] bytes = text.getBytes(StandardCharsets.ISO_8859_1);
        for (int n = 1; n <= 8; n++) {
            EchoPaysRent x = new EchoPaysRent();
            for (int start = 0; start < bytes.length; start += n) {
                int m = Math.min(n, bytes.length - start);
                long higher = m == 8 ? 0 : (start % 2 == 0 ? -1L : 0x3B3B3B3B3B3B3B3BL) << 8 * m;
                Due.due("2: write by " + m, x.write(m, Due.packed(bytes, start, m) | higher), start + m);
            }
            Due.due("2: lay() of what was written by " + n, x.lay(), 2);
            int[] counts = {1, 2, 33, 4, 2};
            for (int what = 0; what < counts.length; what++) {
                Due.due("2: count(" + what + ") by " + n, x.count(what), counts[what]);
            }
            Due.due("2: face(0, 0) by " + n, x.face(0, 0), 12);
            Due.due("2: word(0, 2) by " + n, x.word(0, 2), 60);
        }
    }

    private static void writeTheFarthestLongs() {
        long[] far = {Long.MIN_VALUE, Long.MAX_VALUE, -1L, 0L};
        for (long v : far) {
            EchoPaysRent x = Due.withText("a1;");
            Due.due("2: write(8, " + v + ")", x.write(8, v), 11);
            Due.due("2: fault() behind a1;", x.fault(), 3);
            Due.due("2: write(1, " + v + ")", x.write(1, v), 12);
            Due.due("2: write(9, " + v + ")", x.write(9, v), BAD);
        }
        // the lowest byte of the least long is 0, the highest 128
        EchoPaysRent x = Due.withText("a1");
        Due.due("2: write(1, MIN + ;)", x.write(1, Long.MIN_VALUE + ';'), 3);
        Due.due("2: fault()", x.fault(), NONE);
    }

    private static void writeThreeHundred() {
        EchoPaysRent x = filled(299);
        Due.due("2: two more than 299", x.write(2, 0), FULL);
        Due.due("2: it is 299 still", x.count(9), 299);
        Due.due("2: one more", x.write(1, ';'), 300);
        Due.due("2: one more than 300", x.write(1, ';'), FULL);
        Due.due("2: it is 300 still", x.count(9), 300);
        Due.due("2: the good ITEMS are as they were", x.fault(), NONE);
    }

    private static void writeFullByEachLength() {
        for (int n = 1; n <= 8; n++) {
            EchoPaysRent fits = filled(300 - n);
            Due.due("2: the last " + n + " that fit", fits.write(n, 0), 300);
            Due.due("2: " + n + " more", fits.write(n, 0), FULL);
            EchoPaysRent not = filled(301 - n);
            Due.due("2: the first " + n + " that do not", not.write(n, 0), FULL);
            Due.due("2: nothing is written then", not.count(9), 301 - n);
            Due.due("2: one less fits", n == 1 ? 300 : not.write(n - 1, 0), 300);
        }
    }

    private static void writeBadBeforeFull() {
        EchoPaysRent x = filled(300);
        for (int n : new int[] {0, 9, -1, Integer.MIN_VALUE, Integer.MAX_VALUE}) {
            Due.due("2: write(" + n + ", 0) on 300", x.write(n, 0), BAD);
        }
        Due.due("2: it is 300 still", x.count(9), 300);
    }

    // ---- 3

    private static void wipeOfNothing() {
        EchoPaysRent x = new EchoPaysRent();
        Due.due("3: wipe() of nothing", x.wipe(), 0);
        Due.due("3: wipe() again", x.wipe(), 0);
        Due.due("3: it is empty", x.count(9), 0);
        Due.due("3: the WORDS stay", x.count(1), 2);
    }

    private static void wipeOfThreeHundred() {
        EchoPaysRent x = filled(300);
        Due.due("3: wipe() of 300", x.wipe(), 300);
        Due.due("3: it is empty", x.count(9), 0);
        Due.due("3: fault()", x.fault(), NONE);
        for (int length = 8; length <= 296; length += 8) {
            Due.due("3: there is room again", x.write(8, 0), length);
        }
        Due.due("3: for 300", x.write(4, 0), 300);
        Due.due("3: not for more", x.write(1, 0), FULL);
    }

    /** A text cut behind each of its bytes, where the whole one stood before: what was wiped does not mend it. */
    private static void wipeLeavesNothing() {
        String text = "f12,9,3;w30,7,60;s40;h04;a9;";
        EchoPaysRent x = Due.withText(text);
        Due.due("4: fault() of the whole text", x.fault(), NONE);
        int start = 0;
        for (int length = 1; length <= text.length(); length++) {
            boolean whole = text.charAt(length - 1) == ';';
            x = Due.withText(text);
            Due.due("3: wipe()", x.wipe(), text.length());
            Due.write(x, text.substring(0, length));
            Due.due("3: fault() of its first " + length + " bytes alone", x.fault(), whole ? NONE : start);
            Due.due("3: lay() of its first " + length + " bytes alone", x.lay(), whole && length > 8 ? 1 : NO);
            start = whole ? length : start;
        }
    }

    // ---- 4

    private static void faultOfNothing() {
        Due.due("4: fault() of an empty TEXT", new EchoPaysRent().fault(), NONE);
        EchoPaysRent x = Due.withText("no");
        x.wipe();
        Due.due("4: fault() of a wiped TEXT", x.fault(), NONE);
    }

    private static void faultOfThreeHundred() {
        fault("a1;".repeat(100), NONE);
        fault("a1;".repeat(99) + "a1:", 297);
        fault("a1;".repeat(98) + "s40;h", 298);
        fault("a1;".repeat(98) + "s40;;;", 298);
        fault("s40;".repeat(74) + "a1;x", 299);
        fault("x" + "a1;".repeat(99) + "a1", 0);
        fault("a".repeat(300), 0);
        fault("w1,1,1;" + ";".repeat(293), 7);
    }

    private static void lettersOfItems() {
        for (int b = 0; b < 256; b++) {
            char letter = (char) b;
            boolean one = "sha".indexOf(letter) >= 0;
            boolean three = "fw".indexOf(letter) >= 0;
            fault("a2;" + letter + "1;", one ? NONE : 3);
            fault("a2;" + letter + "1,2,3;", three ? NONE : 3);
            fault("a2;" + letter, 3);
            fault("a2;" + letter + ";", 3);
            fault("a2;" + letter + "1,2;", 3);
            fault("a2;" + letter + "1,2,3,1;", 3);
        }
    }

    private static void signsBetweenNumbers() {
        for (int b = 0; b < 256; b++) {
            char sign = (char) b;
            boolean figure = sign >= '0' && sign <= '9';
            fault("f1" + sign + "2,3;", sign == ',' ? NONE : 0);
            fault("f1,2" + sign + "3;", sign == ',' ? NONE : 0);
            fault("w1,2,3" + sign, sign == ';' ? NONE : 0);
            fault("w1,2,3" + sign + ";", figure ? NONE : sign == ';' ? 7 : 0);
            fault("s" + sign + ";", figure ? NONE : 0);
            fault("s3" + sign + ";", figure ? NONE : sign == ';' ? 3 : 0);
            fault("h" + sign + "3;", sign <= '3' && figure ? NONE : 0);
        }
    }

    private static void oneOrTwoFigures() {
        String[] parts = {"", "1", "01", "001", "1 ", "+1", "-1", "1.", "0001"};
        for (int i = 0; i < parts.length; i++) {
            int want = i == 1 || i == 2 ? NONE : 0;
            String part = parts[i];
            fault("f" + part + ",1,1;", want);
            fault("f1," + part + ",1;", want);
            fault("f1,1," + part + ";", want);
            fault("w" + part + ",1,1;", want);
            fault("w1," + part + ",1;", want);
            fault("w1,1," + part + ";", want);
            fault("s" + part + ";", want);
            fault("h" + part + ";", want);
            fault("a" + part + ";", want);
        }
    }

    /** All numbers of one or two figures in one place of an item: told from the first to the last. */
    private static void numbers(String before, String behind, int first, int last) {
        for (int number = 0; number <= 99; number++) {
            int want = number >= first && number <= last ? NONE : 4;
            fault("s12;" + before + number + behind, want);
            if (number < 10) {
                fault("s12;" + before + "0" + number + behind, want);
            }
        }
    }

    private static void numbersOfCliffs() {
        numbers("f", ",0,0;", 0, 40);
        numbers("f40,", ",3;", 0, 9);
        numbers("f40,9,", ";", 0, 3);
    }

    private static void numbersOfWords() {
        numbers("w", ",1,1;", 0, 30);
        numbers("w30,", ",60;", 1, 7);
        numbers("w30,7,", ";", 1, 60);
    }

    private static void numbersOfTheOthers() {
        numbers("s", ";", 0, 40);
        numbers("h", ";", 0, 40);
        numbers("a", ";", 1, 9);
    }

    private static void fourCliffs() {
        String cliff = "f40,9,3;";
        fault(cliff.repeat(4), NONE);
        fault(cliff.repeat(5), 32);
        fault(cliff.repeat(9), 32);
        fault("w1,1,1;s1;" + cliff.repeat(4) + "h1;" + cliff, 45);
        fault("w1,1,1;" + cliff.repeat(4) + "w2,2,2;", NONE);
        for (int cliffs = 0; cliffs <= 4; cliffs++) {
            EchoPaysRent x = Due.laid(cliff.repeat(cliffs) + "w1,1,1;");
            Due.due("5: so many CLIFFS", x.count(0), cliffs);
            Due.due("6: the first that is none", x.face(cliffs, 0), BAD);
        }
        Due.due("5: the fifth CLIFF is no more LAID", Due.withText("w1,1,1;" + cliff.repeat(5)).lay(), NO);
    }

    private static void eightWords() {
        String word = "w30,7,60;";
        fault(word.repeat(8), NONE);
        fault(word.repeat(9), 72);
        fault(word.repeat(8) + "f1,1,1;s1;" + word, 82);
        fault(word.repeat(8) + "f1,1,1;".repeat(4), NONE);
        // the ninth WORD comes before the fifth CLIFF, and the other way about
        fault(word.repeat(8) + "f1,1,1;".repeat(4) + word + "f1,1,1;", 100);
        fault(word.repeat(8) + "f1,1,1;".repeat(4) + "f1,1,1;" + word, 100);
        Due.due("5: the ninth WORD is no more LAID", Due.withText(word.repeat(9)).lay(), NO);
    }

    private static void placeOfTheFault() {
        // of the ITEM, not of the byte in it
        fault("w1,1,61;", 0);
        fault("a1;w1,1,61;", 3);
        fault("a1;s40;w1,1,61;", 7);
        fault("a1;s40;w1,1,60;f1,2,3,", 15);
        // the first ITEM of several that are not so
        fault("a1;s41;h41;a0;", 3);
        fault("a1;s40;h41;a0;", 7);
        fault("a1;s40;h40;a0;", 11);
        fault("a1;s40;h40;a9;", NONE);
        // an ITEM that is not so is not mended by a later one
        fault("s41;s40;", 0);
        fault("a0;a1;", 0);
    }

    /** A good text, cut behind each of its bytes: the FAULT is where the last ITEM begins. */
    private static void textsCutShort() {
        String text = "f12,9,3;w30,7,60;s40;h04;a9;f1,2,3;w1,2,3;";
        int start = 0;
        for (int length = 1; length <= text.length(); length++) {
            boolean whole = text.charAt(length - 1) == ';';
            fault(text.substring(0, length), whole ? NONE : start);
            start = whole ? length : start;
        }
    }

    /** A good text without its first bytes. */
    private static void textsOfHalfItems() {
        String text = "f12,9,3;w30,7,60;s40;h04;a9;";
        for (int from = 0; from < text.length(); from++) {
            boolean whole = from == 0 || text.charAt(from - 1) == ';';
            fault(text.substring(from), whole ? NONE : 0);
        }
    }

    // ---- 5

    private static void ofSeveralTheLast() {
        EchoPaysRent x = Due.laid("s40;s0;h0;h40;a9;a1;w1,1,1;s7;h8;a2;s3;h4;a5;");
        Due.due("5: the SPEAKER", x.count(2), 3);
        Due.due("5: the HEARER", x.count(3), 4);
        Due.due("5: THE AIR", x.count(4), 5);
        x = Due.laid("w1,1,1;s40;h40;a9;s0;h0;a1;");
        Due.due("5: the SPEAKER", x.count(2), 0);
        Due.due("5: the HEARER", x.count(3), 0);
        Due.due("5: THE AIR", x.count(4), 1);
        Due.due("3: wipe()", x.wipe(), 27);
        Due.write(x, "w1,1,1;s33;h34;a8;f9,9,3");
        Due.due("4: fault()", x.fault(), 18);
        x.wipe();
        Due.write(x, "w1,1,1;");
        Due.due("5: lay() of one without all else", x.lay(), 1);
        Due.due("5: no CLIFF", x.count(0), 0);
        Due.due("5: the SPEAKER without", x.count(2), 0);
        Due.due("5: the HEARER without", x.count(3), 10);
        Due.due("5: THE AIR without", x.count(4), 1);
    }

    private static void layOfNoWord() {
        for (String text : new String[] {"", "a1;", "f1,1,1;", "f1,1,1;".repeat(4) + "s1;h1;a1;"}) {
            EchoPaysRent x = Due.withText(text);
            Due.due("5: fault() of " + text, x.fault(), NONE);
            Due.due("5: lay() of " + text, x.lay(), NO);
            Due.due("5: the WORDS at first", x.count(1), 2);
        }
        // a TEXT of a FAULT and without a WORD as well
        Due.due("5: lay() of f1", Due.withText("f1").lay(), NO);
    }

    private static void layOfOneAndEightWords() {
        for (int words = 1; words <= 8; words++) {
            EchoPaysRent x = Due.withText("w30,7,60;".repeat(words));
            Due.due("5: lay()", x.lay(), words);
            Due.due("5: so many WORDS", x.count(1), words);
            Due.due("7: the last of them", x.word(words - 1, 0), 30);
            Due.due("7: the first that is none", x.word(words, 0), BAD);
        }
    }

    private static void layOfAFault() {
        for (String text : new String[] {"x", "w1,1,1", "w1,1,1;w1,1,0;", "w1,1,1;;", ";w1,1,1;", "w1,1,1;a0;"}) {
            EchoPaysRent x = Due.withText(text);
            Due.due("5: lay() of " + text, x.lay(), NO);
            Due.due("5: the WORDS at first", x.count(1), 2);
            Due.due("5: the CLIFF at first", x.face(0, 0), 20);
            Due.due("5: THE TEXT stays", x.count(9), text.length());
        }
    }

    private static void layOfThreeHundred() {
        EchoPaysRent x = Due.withText("w1,2,3;" + "a1;".repeat(95) + "s40;h38;");
        Due.due("5: 300 bytes", x.count(9), 300);
        Due.due("5: lay() of 300 bytes", x.lay(), 1);
        Due.due("5: the SPEAKER", x.count(2), 40);
        Due.due("5: the HEARER", x.count(3), 38);
        Due.due("5: CLIFFS", x.count(0), 0);
        Due.due("5: THE TEXT stays", x.count(9), 300);
    }

    /** THE TEXT stays, so that it can be LAID once more, and as it was at first. */
    private static void layTwice() {
        EchoPaysRent x = Due.laid("f1,2,3;w4,5,6;s7;h8;a9;");
        x.go(0, 1);
        x.go(1, 2);
        x.snow(1);
        x.say(1, 1, 1);
        Due.due("5: lay() once more", x.lay(), 1);
        Due.due("5: the SPEAKER", x.count(2), 7);
        Due.due("5: the HEARER", x.count(3), 8);
        Due.due("5: no SNOW", x.face(0, 3), 0);
        Due.due("5: THE TEXT stays", x.count(9), 23);
        Due.write(x, "w1,1,1;");
        Due.due("5: lay() of what came behind it", x.lay(), 2);
    }

    private static void layLeavesNothing() {
        EchoPaysRent x = Due.laid("f1,2,3;f1,2,3;w4,5,6;");
        for (int i = 0; i < 10; i++) {
            x.go(0, i);
            x.snow(3);
            x.talk(1);
            x.ear(1, 1, 1);
            x.keep();
        }
        int[] full = {2, 1, 9, 10, 1, 6, 9, 8, 2, 21};
        int[] laid = {2, 1, 0, 10, 1, 0, 0, 0, 0, 21};
        for (int what = 0; what < full.length; what++) {
            Due.due("5: count(" + what + ") before", x.count(what), full[what]);
        }
        Due.due("5: lay()", x.lay(), 1);
        for (int what = 0; what < laid.length; what++) {
            Due.due("5: count(" + what + ") behind", x.count(what), laid[what]);
        }
        Due.due("5: no SNOW on 0", x.face(0, 3), 0);
        Due.due("5: no SNOW on 1", x.face(1, 3), 0);
        Due.due("5: no TALK", x.lines(-1), NO);
        Due.due("5: no EARS", x.stood(0), 41);
        Due.due("5: nothing UNDONE", x.undo(), NO);
        Due.due("5: nothing KEPT", x.back(), NO);
    }
}
