/** Promises 15 and 16: what leaves when an asking goes. */
public final class WithoutTest {
    private static final int NONE = FeatureUnions.NONE;
    private static final Check CHECK = new Check("WithoutTest");

    public static void main(String[] args) {
        whatLeavesAndWhatStays();
        askingsThatWereNot();
        nothingMayHaveComeSince();
        refusedCallsAreNothing();
        theRunIsKept();
        leftIsOfTheLatestWithout();
        asManyAsThereCanBe();
        CHECK.finish();
    }

    private static void dueLeft(FeatureUnions x, int... want) {
        for (int i = 0; i < want.length; i++) {
            CHECK.due("left " + i, x.left(i), want[i]);
        }
        for (int odd : new int[] {want.length, want.length + 1, -1, Integer.MIN_VALUE, Integer.MAX_VALUE}) {
            CHECK.due("left " + odd, x.left(odd), NONE);
        }
    }

    /**
     * Pack 0, the root, needs 1 and asks for its names 0 and 1; name 0 turns on pack 2's feature
     * for building, and names 1 and 0 turn on name 2.
     */
    private static FeatureUnions chain() {
        FeatureUnions x = new FeatureUnions();
        x.pack(false);
        x.pack(false);
        x.pack(false);
        x.feature(2, 5, false, 0);
        x.feature(1, 0, false, 0);
        x.feature(1, 1, false, 0);
        x.feature(1, 2, false, 0);
        x.feature(2, 6, true, 0);
        x.root(0, false);
        x.user(0, 1, false, false, false, 1);
        x.user(1, 2, true, true, true, 255);
        x.asks(0, 0);
        x.asks(0, 1);
        x.turn(1, 2, 1, 5);
        x.turn(1, 0, 0, 2);
        x.turn(2, 0, 0, 2);
        return x;
    }

    private static void whatLeavesAndWhatStays() {
        FeatureUnions x = chain();
        dueLeft(x);
        x.run(0);
        CHECK.due("without 0", x.without(0, 0), 3);
        dueLeft(x, 1, 2, 9);
        CHECK.due("without 1", x.without(0, 1), 1);
        dueLeft(x, 4);
        x.run(1);
        CHECK.due("an asking that doesn't count on the platform", x.without(0, 0), 0);
        dueLeft(x);
    }

    private static void askingsThatWereNot() {
        FeatureUnions x = chain();
        x.run(0);
        for (int user : new int[] {-1, 2, 40, Integer.MIN_VALUE, Integer.MAX_VALUE}) {
            CHECK.due("without of user " + user, x.without(user, 0), NONE);
        }
        for (int name : new int[] {-1, 2, 31, 32, 33, 64, Integer.MIN_VALUE, Integer.MAX_VALUE}) {
            CHECK.due("without name " + name, x.without(0, name), NONE);
        }
        CHECK.due("a user that asked for nothing", x.without(1, 5), NONE);
    }

    private static void nothingMayHaveComeSince() {
        FeatureUnions x = chain();
        CHECK.due("before a run", x.without(0, 0), NONE);
        x.run(8);
        CHECK.due("before a run that wasn't NONE", x.without(0, 0), NONE);
        for (int thing = 0; thing < 6; thing++) {
            x.run(0);
            CHECK.due("after a run", x.without(0, 0), 3);
            switch (thing) {
                case 0 -> x.pack(false);
                case 1 -> x.feature(0, 0, false, 0);
                case 2 -> x.root(3, false);
                case 3 -> x.user(3, 3, false, false, true, 0);
                case 4 -> x.asks(1, 6);
                default -> x.turn(1, 1, 1, 0);
            }
            CHECK.due("after thing " + thing, x.without(0, 0), NONE);
            dueLeft(x, 1, 2, 9);
            x.run(-1);
            CHECK.due("and a refused run", x.without(0, 0), NONE);
        }
    }

    private static void refusedCallsAreNothing() {
        FeatureUnions x = chain();
        for (int i = 3; i < 10; i++) {
            x.pack(false);
        }
        x.run(0);
        x.pack(false);
        x.feature(1, 0, true, 0);
        x.root(0, true);
        x.user(0, 10, true, false, false, 255);
        x.asks(0, 0);
        x.asks(0, 9);
        x.asks(9, 0);
        x.turn(1, 1, 0, 0);
        x.turn(1, 0, 0, 0);
        x.run(8);
        CHECK.due("without after refused calls", x.without(0, 0), 3);
    }

    private static void theRunIsKept() {
        FeatureUnions x = chain();
        x.run(0);
        CHECK.due("without 0", x.without(0, 0), 3);
        CHECK.due("on is kept", x.on(0, 1), 4);
        CHECK.due("live is kept", x.live(1, 0), 4);
        CHECK.due("there is kept", x.there(2, 1), 5);
        CHECK.due("reasons are kept", x.reasons(1, 0), 1);
        CHECK.due("the reason is kept", x.reason(1, 0, 0, 0), 1);
        CHECK.due("the asking is kept", x.asks(0, 0), -3);
        CHECK.due("without 0 again", x.without(0, 0), 3);
        CHECK.due("run again", x.run(0), 5);
        CHECK.due("on again", x.on(0, 1), 4);
    }

    private static void leftIsOfTheLatestWithout() {
        FeatureUnions x = chain();
        x.run(0);
        x.without(0, 0);
        CHECK.due("a without that is NONE", x.without(0, 9), NONE);
        dueLeft(x, 1, 2, 9);
        x.run(1);
        dueLeft(x, 1, 2, 9);
        x.pack(true);
        dueLeft(x, 1, 2, 9);
    }

    private static void asManyAsThereCanBe() {
        FeatureUnions x = new FeatureUnions();
        for (int pack = 0; pack < 6; pack++) {
            x.pack(false);
        }
        for (int i = 0; i < 60; i++) {
            x.feature(i / 10, 31 - i % 10, i / 10 > 0, 0);
        }
        x.root(0, false);
        int asking = x.user(0, 0, false, true, false, 255);
        x.asks(asking, 31);
        for (int i = 1; i < 10; i++) {
            x.turn(0, 0, 0, 31 - i);
        }
        for (int pack = 1; pack < 6; pack++) {
            x.turn(0, 1, x.user(0, pack, true, false, true, 255), 0);
        }
        x.run(0);
        CHECK.due("all leave", x.without(asking, 31), 120);
        for (int i = 0; i < 120; i++) {
            CHECK.due("left " + i, x.left(i), i);
        }
        CHECK.due("no more left", x.left(120), NONE);
    }
}
