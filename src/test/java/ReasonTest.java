/** Promises 12 and 13: the reasons of a feature to be ON, their order, and what they are as of. */
public final class ReasonTest {
    private static final int NONE = FeatureUnions.NONE;
    private static final Check CHECK = new Check("ReasonTest");

    public static void main(String[] args) {
        everyKindInItsOrder();
        bothSidesOfABuildUserCount();
        reasonsInACircleCount();
        weakTurnsAreReasonsWhereTheUserIsLive();
        usersOfAnotherPlatformGiveNoReason();
        reasonsStayAsTheyWere();
        wrongArguments();
        CHECK.finish();
    }

    /** The due reasons, as kind and number in turns. */
    private static void dueReasons(FeatureUnions x, int feature, int side, int... want) {
        String of = "feature " + feature + " side " + side;
        CHECK.due("reasons of " + of, x.reasons(feature, side), want.length / 2);
        for (int i = 0; i < want.length / 2; i++) {
            CHECK.due("kind of reason " + i + " of " + of, x.reason(feature, side, i, 0), want[2 * i]);
            CHECK.due("number of reason " + i + " of " + of, x.reason(feature, side, i, 1), want[2 * i + 1]);
        }
        CHECK.due("kind past the last of " + of, x.reason(feature, side, want.length / 2, 0), NONE);
        CHECK.due("number past the last of " + of, x.reason(feature, side, want.length / 2, 1), NONE);
    }

    /** Pack 1 is the root; feature 0 (pack 1, name 4, default) has a reason of every kind on run. */
    private static FeatureUnions all() {
        FeatureUnions x = new FeatureUnions();
        x.pack(false);
        x.pack(false);
        x.feature(1, 4, true, 0);
        x.feature(1, 5, true, 0);
        x.root(1, true);
        x.user(1, 0, true, true, false, 255);
        x.user(1, 1, true, false, false, 255);
        x.user(1, 1, true, true, false, 255);
        x.user(1, 1, false, false, true, 255);
        x.asks(1, 4);
        x.turn(1, 3, 1, 4);
        x.turn(1, 2, 3, 4);
        x.turn(1, 0, 0, 4);
        x.turn(1, 0, 0, 4);
        return x;
    }

    private static void everyKindInItsOrder() {
        FeatureUnions x = all();
        x.run(0);
        dueReasons(x, 0, 0, 0, 1, 1, 2, 2, 2, 3, 4, 3, 6, 4, 2, 5, 0, 6, 1);
        dueReasons(x, 0, 1, 1, 3, 2, 3, 2, 4, 2, 5, 3, 5, 3, 7, 4, 3, 5, 1, 6, 0);
    }

    private static void bothSidesOfABuildUserCount() {
        FeatureUnions x = new FeatureUnions();
        x.pack(true);
        x.feature(0, 0, true, 0);
        x.feature(0, 9, false, 0);
        x.root(0, true);
        x.user(0, 0, true, true, false, 255);
        x.asks(0, 9);
        x.turn(0, 2, 0, 9);
        x.turn(0, 3, 0, 9);
        x.run(0);
        dueReasons(x, 0, 0, 0, 0);
        dueReasons(x, 0, 1, 2, 0, 2, 1);
        dueReasons(x, 1, 0);
        dueReasons(x, 1, 1, 1, 0, 1, 1, 4, 0, 4, 1, 5, 2, 5, 3);
    }

    private static void reasonsInACircleCount() {
        FeatureUnions x = new FeatureUnions();
        x.pack(false);
        x.feature(0, 0, true, 0);
        x.feature(0, 1, false, 0);
        x.root(0, true);
        x.turn(1, 0, 0, 0);
        x.turn(0, 0, 0, 1);
        x.turn(0, 0, 0, 1);
        x.run(0);
        dueReasons(x, 0, 0, 0, 0, 3, 0);
        dueReasons(x, 1, 0, 3, 2, 3, 4);
    }

    private static void weakTurnsAreReasonsWhereTheUserIsLive() {
        FeatureUnions x = new FeatureUnions();
        x.pack(false);
        x.feature(0, 0, true, 0);
        x.feature(0, 1, true, 0);
        x.root(0, true);
        x.user(0, 0, false, false, true, 255);
        x.turn(1, 3, 0, 0);
        x.run(0);
        dueReasons(x, 0, 0, 0, 0);
        x.turn(0, 1, 0, 0);
        dueReasons(x, 0, 0, 0, 0);
        x.run(0);
        dueReasons(x, 0, 0, 0, 0, 5, 0);
    }

    private static void usersOfAnotherPlatformGiveNoReason() {
        FeatureUnions x = new FeatureUnions();
        x.pack(true);
        x.feature(0, 0, true, 0);
        x.root(0, true);
        x.user(0, 0, true, false, false, 1 << 3);
        x.asks(0, 0);
        x.turn(0, 2, 0, 0);
        x.turn(0, 3, 0, 0);
        x.run(2);
        dueReasons(x, 0, 0, 0, 0);
        x.run(3);
        dueReasons(x, 0, 0, 0, 0, 1, 0, 2, 0, 4, 0, 5, 2);
    }

    private static void reasonsStayAsTheyWere() {
        FeatureUnions x = new FeatureUnions();
        x.pack(false);
        x.pack(false);
        x.feature(0, 0, true, 0);
        x.feature(1, 0, true, 0);
        x.feature(1, 1, true, 0);
        x.root(0, true);
        x.user(0, 1, true, false, false, 255);
        x.run(0);
        dueReasons(x, 1, 0, 2, 0);
        x.asks(0, 0);
        x.user(0, 1, true, false, false, 255);
        x.turn(0, 2, 0, 0);
        x.turn(2, 0, 0, 0);
        x.root(1, true);
        x.feature(0, 1, true, 0);
        x.run(-1);
        dueReasons(x, 1, 0, 2, 0);
        CHECK.due("a feature that came since", x.reasons(3, 0), 0);
        CHECK.due("its reason", x.reason(3, 0, 0, 0), NONE);
        x.run(0);
        dueReasons(x, 1, 0, 0, 1, 1, 0, 2, 0, 2, 2, 3, 2, 4, 0);
        dueReasons(x, 3, 0, 0, 0);
    }

    private static void wrongArguments() {
        FeatureUnions x = all();
        CHECK.due("reasons before a run", x.reasons(0, 0), 0);
        CHECK.due("reason before a run", x.reason(0, 0, 0, 0), NONE);
        x.run(0);
        for (int odd : new int[] {-2, -1, 2, 60, Integer.MIN_VALUE, Integer.MAX_VALUE}) {
            CHECK.due("reasons of feature " + odd, x.reasons(odd, 0), 0);
            CHECK.due("reasons on side " + odd, x.reasons(0, odd), 0);
            CHECK.due("reason of feature " + odd, x.reason(odd, 0, 0, 0), NONE);
            CHECK.due("reason on side " + odd, x.reason(0, odd, 0, 0), NONE);
            CHECK.due("reason for what " + odd, x.reason(0, 0, 0, odd), NONE);
        }
        for (int odd : new int[] {-2, -1, 8, 1000, Integer.MIN_VALUE, Integer.MAX_VALUE}) {
            CHECK.due("reason " + odd, x.reason(0, 0, odd, 0), NONE);
        }
    }
}
