import java.util.ArrayList;
import java.util.List;
import java.util.function.ToIntFunction;

/**
 * All promises: a call that answers BAD, NO, NONE or FULL changes nothing, and of several of these
 * the first is answered. Of two objects made alike, one gets the call; all that can be asked of
 * both, and what is UNDONE and KEPT in both, has to be the same then.
 */
public final class RefusedTest {
    private static final int BAD = EchoPaysRent.BAD, NO = EchoPaysRent.NO;
    private static final int FULL = EchoPaysRent.FULL, NONE = EchoPaysRent.NONE;
    private static final int[] FAR = {Integer.MIN_VALUE, Integer.MAX_VALUE};

    private record Call(String name, ToIntFunction<EchoPaysRent> asked) {
    }

    private interface State {
        EchoPaysRent make();
    }

    private RefusedTest() {
    }

    public static void main(String[] args) {
        badByEachNumber();
        refusedChangesNothing("a new one", EchoPaysRent::new);
        refusedChangesNothing("a rich one", RefusedTest::rich);
        refusedChangesNothing("a full one", RefusedTest::full);
        refusedChangesNothing("a hopeless one", RefusedTest::hopeless);
        refusedChangesNothing("one of a FAULT", RefusedTest::ofAFault);
        asManyAsThereShouldBe();
        badFirst();
        noBeforeNone();
        Due.finish("RefusedTest");
    }

    // ---- the states

    /** Some of all. */
    private static EchoPaysRent rich() {
        EchoPaysRent x = Due.laid("f22,1,0;f3,2,3;w0,1,60;w4,2,55;w9,3,50;s6;h12;");
        x.keep();
        x.go(0, 8);
        x.snow(1);
        x.talk(1);
        x.talk(0);
        x.talk(3);
        x.ear(12, 4, 1);
        x.ear(30, 22, 1);
        x.say(12, 4, 50);
        x.go(1, 14);
        return x;
    }

    /** As much of all as there can be. */
    private static EchoPaysRent full() {
        EchoPaysRent x = Due.laid("f22,1,0;f3,2,3;f40,9,2;f0,0,1;w0,1,60;w4,2,55;s6;h12;");
        Due.write(x, "a1;".repeat((300 - x.count(9)) / 3) + ";".repeat((300 - x.count(9)) % 3));
        for (int i = 0; i < 6; i++) {
            x.say(5 + 2 * i, i + 1, 60 - i);
            x.talk(i % 4);
        }
        for (int i = 0; i < 9; i++) {
            x.ear(14, i, 0);
        }
        x.keep();
        x.snow(5);
        x.go(1, 15);
        x.keep();
        x.go(0, 7);
        x.go(1, 13);
        x.snow(8);
        return x;
    }

    /** Nothing is CLEAR, nothing can be said, no yard is as EARS heard. */
    private static EchoPaysRent hopeless() {
        EchoPaysRent x = Due.laid("f30,9,2;w0,1,40;w0,2,40;a9;s3;h20;");
        x.talk(2);
        x.talk(1);
        x.ear(5, 149, 7);
        x.go(0, 2);
        return x;
    }

    /** THE TEXT has a FAULT, at 3. */
    private static EchoPaysRent ofAFault() {
        EchoPaysRent x = Due.withText("a2;w1,1,61;f5,5,1;");
        x.snow(1);
        x.keep();
        x.go(0, 9);
        return x;
    }

    // ---- what can be seen of an object

    /** All that the object answers, by some 300 calls; nothing is left of it by this. */
    private static List<Integer> seen(EchoPaysRent x) {
        List<Integer> all = new ArrayList<>();
        for (int what = 0; what < 10; what++) {
            all.add(x.count(what));
        }
        int[] asked = {x.fault(), x.rent(), x.leftOut(), x.second(3), x.thick(), x.heckle(7, 5, 0),
            x.heckle(7, 5, 1), x.stood(0), x.stood(1), x.moved(), x.evening(9), x.evening(5000)};
        for (int answer : asked) {
            all.add(answer);
        }
        for (int what = 0; what < 4; what++) {
            all.add(x.place(what));
        }
        for (int i = -1; i < 6; i++) {
            all.add(x.lines(i));
        }
        for (int b = 0; b < 60; b++) {
            all.add(x.heard(14, b));
        }
        for (int i = 0; i < 4; i++) {
            for (int what = 0; what < 4; what++) {
                all.add(x.face(i, what));
                all.add(x.word(i, what));
                all.add(x.word(i + 4, what));
            }
        }
        // back() leaves nothing to be UNDONE, so that comes first
        for (int left = 8; left >= 0; left = x.undo()) {
            scene(x, all);
        }
        for (int left = 2; left >= 0; left = x.back()) {
            scene(x, all);
        }
        all.add(x.lay());
        scene(x, all);
        return all;
    }

    private static void scene(EchoPaysRent x, List<Integer> all) {
        for (int what : new int[] {1, 2, 3, 7, 8}) {
            all.add(x.count(what));
        }
        for (int i = 0; i < 4; i++) {
            all.add(x.face(i, 3));
        }
    }

    // ---- the calls

    /** Of each call all that the document refuses by its numbers, in whatever state. */
    private static List<Call> bad() {
        List<Call> calls = new ArrayList<>();
        for (int n : with(0, 9)) {
            calls.add(new Call("write(" + n + ", 0)", x -> x.write(n, 0x61313B)));
        }
        for (int f : with(-1, 4)) {
            for (int what = 0; what < 4; what++) {
                int w = what;
                calls.add(new Call("face(" + f + ", " + w + ")", x -> x.face(f, w)));
            }
        }
        for (int w : with(-1, 8)) {
            for (int what = 0; what < 4; what++) {
                int k = what;
                calls.add(new Call("word(" + w + ", " + k + ")", x -> x.word(w, k)));
            }
        }
        for (int what : with(-1, 4)) {
            calls.add(new Call("face(0, " + what + ")", x -> x.face(0, what)));
            calls.add(new Call("word(0, " + what + ")", x -> x.word(0, what)));
            calls.add(new Call("place(" + what + ")", x -> x.place(what)));
            calls.add(new Call("talk(" + what + ")", x -> x.talk(what)));
        }
        for (int y : with(-1, 41)) {
            calls.add(new Call("heard(" + y + ", 5)", x -> x.heard(y, 5)));
            calls.add(new Call("clear(" + y + ")", x -> x.clear(y)));
            calls.add(new Call("go(0, " + y + ")", x -> x.go(0, y)));
            calls.add(new Call("go(1, " + y + ")", x -> x.go(1, y)));
            calls.add(new Call("second(" + y + ")", x -> x.second(y)));
            calls.add(new Call("heckle(" + y + ", 1, 0)", x -> x.heckle(y, 1, 0)));
            calls.add(new Call("ear(" + y + ", 5, 5)", x -> x.ear(y, 5, 5)));
        }
        for (int b : with(-1, 150)) {
            calls.add(new Call("heard(5, " + b + ")", x -> x.heard(5, b)));
            calls.add(new Call("ear(5, " + b + ", 5)", x -> x.ear(5, b, 5)));
        }
        for (int who : with(-1, 2)) {
            calls.add(new Call("go(" + who + ", 5)", x -> x.go(who, 5)));
            calls.add(new Call("heckle(5, 1, " + who + ")", x -> x.heckle(5, 1, who)));
            calls.add(new Call("stood(" + who + ")", x -> x.stood(who)));
        }
        for (int set : with(-1, 16)) {
            calls.add(new Call("snow(" + set + ")", x -> x.snow(set)));
        }
        for (int t : with(-1, 31)) {
            calls.add(new Call("say(" + t + ", 1, 1)", x -> x.say(t, 1, 1)));
        }
        for (int v : with(0, 8)) {
            calls.add(new Call("say(1, " + v + ", 1)", x -> x.say(1, v, 1)));
            calls.add(new Call("heckle(5, " + v + ", 0)", x -> x.heckle(5, v, 0)));
        }
        for (int l : with(0, 61)) {
            calls.add(new Call("say(1, 1, " + l + ")", x -> x.say(1, 1, l)));
        }
        for (int i : new int[] {-2, -3, Integer.MIN_VALUE}) {
            calls.add(new Call("lines(" + i + ")", x -> x.lines(i)));
        }
        for (int c : with(-1, 9)) {
            calls.add(new Call("ear(5, 5, " + c + ")", x -> x.ear(5, 5, c)));
        }
        for (int z : with(-1, 10000)) {
            calls.add(new Call("evening(" + z + ")", x -> x.evening(z)));
        }
        for (int what : with(-1, 10)) {
            calls.add(new Call("count(" + what + ")", x -> x.count(what)));
        }
        return calls;
    }

    private static int[] with(int below, int above) {
        return new int[] {below, above, FAR[0], FAR[1]};
    }

    /** The calls that some states refuse and others do not. */
    private static List<Call> perhaps() {
        List<Call> calls = new ArrayList<>();
        for (int n = 1; n <= 8; n++) {
            int m = n;
            calls.add(new Call("write(" + m + ", 0)", x -> x.write(m, 0)));
        }
        for (int i : new int[] {-1, 0, 1, 2, 5, 6, 7, Integer.MAX_VALUE}) {
            calls.add(new Call("lines(" + i + ")", x -> x.lines(i)));
        }
        for (int f = 0; f < 8; f++) {
            int g = f;
            calls.add(new Call("face(" + g + ", 3)", x -> x.face(g, 3)));
            calls.add(new Call("word(" + g + ", 3)", x -> x.word(g, 3)));
            calls.add(new Call("snow(" + 2 * g + ")", x -> x.snow(2 * g)));
        }
        for (int v = 0; v < 4; v++) {
            int u = v;
            calls.add(new Call("talk(" + u + ")", x -> x.talk(u)));
            calls.add(new Call("second(" + 13 * u + ")", x -> x.second(13 * u)));
            calls.add(new Call("heckle(" + 13 * u + ", 5, 0)", x -> x.heckle(13 * u, 5, 0)));
            calls.add(new Call("heckle(" + 13 * u + ", 5, 1)", x -> x.heckle(13 * u, 5, 1)));
            calls.add(new Call("ear(" + 13 * u + ", 0, 8)", x -> x.ear(13 * u, 0, 8)));
        }
        calls.add(new Call("fault()", EchoPaysRent::fault));
        calls.add(new Call("lay()", EchoPaysRent::lay));
        calls.add(new Call("say(0, 1, 1)", x -> x.say(0, 1, 1)));
        calls.add(new Call("undo()", EchoPaysRent::undo));
        calls.add(new Call("thick()", EchoPaysRent::thick));
        calls.add(new Call("stood(1)", x -> x.stood(1)));
        calls.add(new Call("moved()", EchoPaysRent::moved));
        calls.add(new Call("keep()", EchoPaysRent::keep));
        calls.add(new Call("back()", EchoPaysRent::back));
        return calls;
    }

    // ---- the tests

    private static void badByEachNumber() {
        for (Call call : bad()) {
            Due.due("a new one: " + call.name(), call.asked().applyAsInt(new EchoPaysRent()), BAD);
            Due.due("a rich one: " + call.name(), call.asked().applyAsInt(rich()), BAD);
            Due.due("a full one: " + call.name(), call.asked().applyAsInt(full()), BAD);
            Due.due("a hopeless one: " + call.name(), call.asked().applyAsInt(hopeless()), BAD);
        }
    }

    private static int refused = 0;

    private static void refusedChangesNothing(String name, State state) {
        List<Integer> untouched = seen(state.make());
        List<Call> calls = bad();
        calls.addAll(perhaps());
        EchoPaysRent all = state.make();
        for (Call call : calls) {
            EchoPaysRent x = state.make();
            if (call.asked().applyAsInt(x) < 0) {
                refused++;
                Due.due(name + " is another behind " + call.name(), seen(x).equals(untouched) ? 0 : 1, 0);
                // and one behind the other, as many as an object's use leaves
                if (refused % 3 == 0) {
                    call.asked().applyAsInt(all);
                }
            }
        }
        Due.due(name + " is another behind many", seen(all).equals(untouched) ? 0 : 1, 0);
    }

    private static void asManyAsThereShouldBe() {
        Due.due("so many were refused: " + refused, refused > 5 * bad().size() + 40 ? 1 : 0, 1);
        Due.due("full: no undo is refused", full().undo(), 7);
        int[] most = {4, 8, 7, 13, 1, 6, 9, 8, 2, 300};
        for (int what = 0; what < most.length; what++) {
            Due.due("full: count(" + what + ")", full().count(what), most[what]);
        }
    }

    private static void badFirst() {
        // BAD and NO
        Due.due("lines(-2) without TALK", new EchoPaysRent().lines(-2), BAD);
        // BAD and NONE
        Due.due("lines(-2) of none", hopeless().lines(-2), BAD);
        Due.due("second(41) of none", hopeless().second(41), BAD);
        Due.due("second(0) of none", hopeless().second(0), NONE);
        Due.due("heckle(41, 1, 0) of none", hopeless().heckle(41, 1, 0), BAD);
        Due.due("heckle(0, 8, 0) of none", hopeless().heckle(0, 8, 0), BAD);
        Due.due("heckle(0, 1, 2) of none", hopeless().heckle(0, 1, 2), BAD);
        Due.due("heckle(0, 1, 0) of none", hopeless().heckle(0, 1, 0), NONE);
        Due.due("stood(2) of none", hopeless().stood(2), BAD);
        Due.due("stood(1) of none", hopeless().stood(1), NONE);
        // BAD and FULL
        Due.due("write(0, 0) by 300", full().write(0, 0), BAD);
        Due.due("write(1, 0) by 300", full().write(1, 0), FULL);
        Due.due("say(31, 1, 1) by 8", full().say(31, 1, 1), BAD);
        Due.due("say(30, 1, 1) by 8", full().say(30, 1, 1), FULL);
        Due.due("talk(4) by 6", full().talk(4), BAD);
        Due.due("talk(3) by 6", full().talk(3), FULL);
        Due.due("ear(0, 0, 9) by 9", full().ear(0, 0, 9), BAD);
        Due.due("ear(0, 0, 8) by 9", full().ear(0, 0, 8), FULL);
        Due.due("keep() by 2", full().keep(), FULL);
    }

    private static void noBeforeNone() {
        for (int i : new int[] {-1, 0, 5, 6, 7, Integer.MAX_VALUE}) {
            Due.due("lines(" + i + ") without TALK", new EchoPaysRent().lines(i), NO);
            EchoPaysRent none = hopeless();
            Due.due("lines(" + i + ") of none", none.lines(i), NONE);
            none.noTalk();
            Due.due("lines(" + i + ") of none, without TALK", none.lines(i), NO);
        }
        // a TEXT both without a WORD and with a FAULT
        Due.due("lay() of f", Due.withText("f").lay(), NO);
        Due.due("lay() of nothing", new EchoPaysRent().lay(), NO);
    }
}
