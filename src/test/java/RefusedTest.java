import java.util.ArrayList;
import java.util.List;
import java.util.function.Supplier;
import java.util.function.ToIntFunction;

/**
 * Promises 1 to 16: a call that is refused changes nothing. After each, the stages and what leaves
 * are those of an object that was spared it, and without tells that nothing has come.
 */
public final class RefusedTest {
    private static final int NONE = Edges.NONE;
    private static final int ALL = Edges.ALL;
    private static final Check CHECK = new Check("RefusedTest");

    private record Call(String text, ToIntFunction<FeatureUnions> made, int due) { }

    public static void main(String[] args) {
        for (Call call : onASmallObject()) {
            refuse(call, RefusedTest::small, 2, 3, 4);
        }
        for (Call call : onAFullObject()) {
            refuse(call, Edges::full, 10, 40, 60);
        }
        nothingEverThrows();
        CHECK.finish();
    }

    /** Pack 0, a root with a default, needs 1 thrice, once optionally; what is ON could still grow. */
    private static FeatureUnions small() {
        FeatureUnions x = Edges.packs(2);
        x.feature(0, 0, true, 1);
        x.feature(0, 1, false, 1);
        x.feature(1, 1, false, 0);
        x.feature(1, 31, true, 0);
        x.root(0, true);
        x.user(0, 1, false, false, false, 1);
        x.user(0, 1, true, true, true, ALL);
        x.user(1, 1, false, true, true, ALL);
        x.asks(0, 1);
        x.turn(2, 1, 2, 0);
        return x;
    }

    private static List<Call> onASmallObject() {
        List<Call> calls = new ArrayList<>();
        for (int n : new int[] {-1, 2, 32, Integer.MIN_VALUE, Integer.MAX_VALUE}) {
            calls.add(new Call("feature of pack " + n, x -> x.feature(n, 2, true, 1), NONE));
            calls.add(new Call("root " + n, x -> x.root(n, true) ? 1 : 0, 0));
            calls.add(new Call("user from " + n, x -> x.user(n, 1, true, true, false, ALL), NONE));
            calls.add(new Call("user to " + n, x -> x.user(0, n, true, true, false, ALL), NONE));
        }
        for (int n : new int[] {-1, 32, Integer.MIN_VALUE, Integer.MAX_VALUE}) {
            calls.add(new Call("feature of name " + n, x -> x.feature(0, n, true, 1), NONE));
            calls.add(new Call("feature of group " + n, x -> x.feature(0, 2, true, n), NONE));
            calls.add(new Call("asks of user " + n, x -> x.asks(n, 31), -1));
            calls.add(new Call("asks for name " + n, x -> x.asks(0, n), -2));
            calls.add(new Call("turn of feature " + n, x -> x.turn(n, 0, 0, 1), NONE));
            calls.add(new Call("turn of kind " + n, x -> x.turn(0, n, 1, 1), NONE));
            calls.add(new Call("turn of user " + n, x -> x.turn(0, 2, n, 1), NONE));
            calls.add(new Call("turn of name " + n, x -> x.turn(0, 2, 1, n), NONE));
            calls.add(new Call("run " + n, x -> x.run(n), NONE));
            calls.add(new Call("without user " + n, x -> x.without(n, 1), NONE));
            calls.add(new Call("without name " + n, x -> x.without(0, n), NONE));
        }
        calls.add(new Call("a name that is there", x -> x.feature(0, 1, true, 1), NONE));
        calls.add(new Call("a root that is one", x -> x.root(0, false) ? 1 : 0, 0));
        calls.add(new Call("asks for none such", x -> x.asks(0, 0), -2));
        calls.add(new Call("asks again", x -> x.asks(0, 1), -3));
        calls.add(new Call("turn itself", x -> x.turn(0, 0, 0, 0), NONE));
        calls.add(new Call("turn another pack's user", x -> x.turn(0, 1, 2, 0), NONE));
        calls.add(new Call("turn one that isn't optional", x -> x.turn(0, 1, 0, 0), NONE));
        calls.add(new Call("turn a name of the wrong pack", x -> x.turn(0, 2, 1, 0), NONE));
        calls.add(new Call("run 8", x -> x.run(8), NONE));
        calls.add(new Call("without what wasn't asked", x -> x.without(1, 31), NONE));
        return calls;
    }

    private static List<Call> onAFullObject() {
        List<Call> calls = new ArrayList<>();
        calls.add(new Call("an eleventh pack", x -> x.pack(true), NONE));
        calls.add(new Call("a sixty-first feature", x -> x.feature(0, 6, true, 1), NONE));
        calls.add(new Call("an eleventh root", x -> x.root(10, true) ? 1 : 0, 0));
        calls.add(new Call("a forty-first user", x -> x.user(9, 0, true, true, false, ALL), NONE));
        calls.add(new Call("an asking of it", x -> x.asks(40, 1), -1));
        calls.add(new Call("a sixty-first turn", x -> x.turn(59, 0, 0, 0), NONE));
        return calls;
    }

    /** Three objects alike, as the stages of a full one take 220 of the 512 calls. */
    private static void refuse(Call call, Supplier<FeatureUnions> maker, int packs, int users, int features) {
        FeatureUnions spared = maker.get();
        int greatest = spared.run(0);
        int leaving = spared.without(0, 1);
        int first = spared.left(0);
        int[] stages = Edges.stages(spared, packs, users, features);

        FeatureUnions x = maker.get();
        x.run(0);
        CHECK.due("without before " + call.text, x.without(0, 1) >= 0, true);
        CHECK.due(call.text, call.made.applyAsInt(x), call.due);
        CHECK.due("left after " + call.text, x.left(0), first);
        CHECK.due("stages after " + call.text, Edges.same(stages, Edges.stages(x, packs, users, features)), true);
        CHECK.due("without after " + call.text, x.without(0, 1), leaving);

        x = maker.get();
        CHECK.due(call.text + " before a run", call.made.applyAsInt(x), call.due);
        CHECK.due("run after " + call.text, x.run(0), greatest);
        CHECK.due("stages of a run after " + call.text,
                Edges.same(stages, Edges.stages(x, packs, users, features)), true);
        CHECK.due("without of a run after " + call.text, x.without(0, 1), leaving);
    }

    /**
     * Wild arguments on a new, a small and a full object, beyond 512 calls too: what those answer is
     * free, but the language's rules let no call throw.
     */
    private static void nothingEverThrows() {
        int[] wild = Edges.outside(5);
        for (FeatureUnions x : new FeatureUnions[] {new FeatureUnions(), small(), Edges.full()}) {
            for (int a : wild) {
                for (int b : wild) {
                    x.feature(a, b, true, b);
                    x.user(a, b, true, true, true, a);
                    x.asks(a, b);
                    for (int c : new int[] {0, 1, 2, 3, a, b}) {
                        x.turn(a, c, b, a);
                        x.reason(a, b, c, c);
                        x.reason(c, c, a, b);
                        x.without(a, c);
                    }
                    x.there(a, b);
                    x.live(a, b);
                    x.on(a, b);
                    x.reasons(a, b);
                    x.clash(a, b);
                    x.without(a, b);
                }
                x.pack(true);
                x.root(a, true);
                x.run(a);
                x.left(a);
                x.run(0);
            }
            CHECK.due("an end without a throw", true, true);
        }
    }
}
