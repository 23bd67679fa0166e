import java.nio.charset.StandardCharsets;
import java.util.function.IntUnaryOperator;

/** What the tests share: telling a wrong answer, and writing a text into an object. */
final class Due {
    private static int calls = 0;
    private static int wrong = 0;

    private Due() {
    }

    static void due(String call, long got, long want) {
        calls++;
        if (got != want) {
            wrong++;
            System.out.println(call + " answered " + got + ", due is " + want);
        }
    }

    /** A number that is told from the first to the last: these are, those beyond and the farthest ints are BAD. */
    static void ends(String call, int first, int last, IntUnaryOperator answer) {
        for (int told : new int[] {first, last}) {
            due(call + " is BAD by " + told, answer.applyAsInt(told) == EchoPaysRent.BAD ? 1 : 0, 0);
        }
        for (int none : new int[] {first - 1, last + 1, Integer.MIN_VALUE, Integer.MAX_VALUE}) {
            due(call + " by " + none, answer.applyAsInt(none), EchoPaysRent.BAD);
        }
    }

    static void finish(String test) {
        System.out.println(test + ": " + calls + " answers, " + wrong + " wrong");
        if (wrong != 0 || calls == 0) {
            System.exit(1);
        }
    }

    /** Writes a text of characters 0 to 255 behind THE TEXT, eight bytes at a time. */
    static void write(EchoPaysRent x, String text) {
        byte[] bytes = text.getBytes(StandardCharsets.ISO_8859_1);
        int length = x.count(9);
        for (int start = 0; start < bytes.length; start += 8) {
            int n = Math.min(8, bytes.length - start);
            length += n;
            due("write of " + text, x.write(n, packed(bytes, start, n)), length);
        }
    }

    static long packed(byte[] bytes, int start, int n) {
        long v = 0;
        for (int i = 0; i < n; i++) {
            v = v << 8 | bytes[start + i] & 255;
        }
        return v;
    }

    static EchoPaysRent withText(String text) {
        EchoPaysRent x = new EchoPaysRent();
        write(x, text);
        return x;
    }

    static EchoPaysRent laid(String text) {
        EchoPaysRent x = withText(text);
        int words = text.length() - text.replace("w", "").length();
        due("lay of " + text, x.lay(), words);
        return x;
    }
}
