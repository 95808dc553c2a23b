/** Promises 8 to 11: the closure's items and their stages. */
public final class RunTest {
    private static final int NONE = FeatureUnions.NONE;
    private static final Check CHECK = new Check("RunTest");

    public static void main(String[] args) {
        platformsAreZeroToSeven();
        rootsAreThereOnRun();
        usersThatAreNotOptionalAreLive();
        farSidesLeadToBuild();
        usersOfAnotherPlatformCountForNothing();
        askedAndDefaultFeaturesAreOn();
        turnsOfEachKind();
        weakTurnsWaitForTheirUser();
        weakTurnsWaitForTheirFeature();
        featuresCrossSidesUnlessApart();
        circlesDoNotHoldThemselves();
        theLeastStageCounts();
        answersAreOfTheLatestRun();
        wrongArgumentsAnswerZero();
        CHECK.finish();
    }

    /** Packs 0 .. count-1, none of them apart, pack 0 a root without defaults. */
    private static FeatureUnions packs(int count) {
        FeatureUnions x = new FeatureUnions();
        for (int i = 0; i < count; i++) {
            x.pack(false);
        }
        x.root(0, false);
        return x;
    }

    private static void platformsAreZeroToSeven() {
        FeatureUnions x = packs(1);
        for (int platform : new int[] {-1, 8, 32, Integer.MIN_VALUE, Integer.MAX_VALUE}) {
            CHECK.due("run " + platform, x.run(platform), NONE);
        }
        CHECK.due("a refused run tells nothing", x.there(0, 0), 0);
        for (int platform = 0; platform < 8; platform++) {
            CHECK.due("run " + platform, x.run(platform), 1);
        }
        CHECK.due("a refused run after others", x.run(9), NONE);
        CHECK.due("leaves the latest", x.there(0, 0), 1);
    }

    private static void rootsAreThereOnRun() {
        FeatureUnions x = packs(3);
        x.root(2, true);
        x.feature(0, 0, true, 0);
        x.feature(2, 0, true, 0);
        x.feature(2, 1, false, 0);
        CHECK.due("run with roots", x.run(0), 2);
        CHECK.due("root 0 on run", x.there(0, 0), 1);
        CHECK.due("root 0 on build", x.there(0, 1), 0);
        CHECK.due("no root", x.there(1, 0), 0);
        CHECK.due("root 2 on run", x.there(2, 0), 1);
        CHECK.due("default of a root without defaults", x.on(0, 0), 0);
        CHECK.due("default of a root with defaults", x.on(1, 0), 2);
        CHECK.due("the same on build", x.on(1, 1), 0);
        CHECK.due("no default", x.on(2, 0), 0);
    }

    private static void usersThatAreNotOptionalAreLive() {
        FeatureUnions x = packs(4);
        x.user(0, 1, false, false, false, 255);
        x.user(0, 2, false, false, true, 255);
        x.user(1, 3, false, false, false, 255);
        x.user(2, 3, false, false, false, 255);
        CHECK.due("run with users", x.run(0), 5);
        CHECK.due("a user", x.live(0, 0), 2);
        CHECK.due("its far pack", x.there(1, 0), 3);
        CHECK.due("an optional user", x.live(1, 0), 0);
        CHECK.due("its far pack", x.there(2, 0), 0);
        CHECK.due("a further user", x.live(2, 0), 4);
        CHECK.due("its far pack", x.there(3, 0), 5);
        CHECK.due("a user of what isn't there", x.live(3, 0), 0);
        CHECK.due("nothing on build", x.live(0, 1) + x.there(1, 1), 0);
    }

    private static void farSidesLeadToBuild() {
        FeatureUnions x = packs(3);
        x.user(0, 1, false, true, false, 255);
        x.user(1, 2, false, false, false, 255);
        x.user(2, 1, false, true, false, 255);
        CHECK.due("run with a build user", x.run(0), 6);
        CHECK.due("a build user is live on run", x.live(0, 0), 2);
        CHECK.due("its pack on run", x.there(1, 0), 0);
        CHECK.due("its pack on build", x.there(1, 1), 3);
        CHECK.due("a run user on build", x.live(1, 1), 4);
        CHECK.due("a run user on run", x.live(1, 0), 0);
        CHECK.due("what it needs on build", x.there(2, 1), 5);
        CHECK.due("what it needs on run", x.there(2, 0), 0);
        CHECK.due("a build user on build", x.live(2, 1), 6);
    }

    private static void usersOfAnotherPlatformCountForNothing() {
        FeatureUnions x = packs(2);
        x.feature(0, 0, false, 0);
        x.feature(1, 0, false, 0);
        x.user(0, 0, false, false, false, 1 << 0 | 1 << 7);
        x.user(0, 1, false, false, true, 1 << 7 | 1 << 8);
        x.asks(0, 0);
        x.turn(0, 1, 1, 0);
        x.turn(0, 2, 1, 0);
        CHECK.due("run on 7", x.run(7), 5);
        CHECK.due("the user of 7", x.live(1, 0), 4);
        CHECK.due("its turned feature", x.on(1, 0), 4);
        CHECK.due("its pack", x.there(1, 0), 5);
        CHECK.due("run on 0", x.run(0), 3);
        CHECK.due("not for 0: live", x.live(1, 0), 0);
        CHECK.due("not for 0: the turned feature", x.on(1, 0), 0);
        CHECK.due("not for 0: the pack", x.there(1, 0), 0);
        CHECK.due("for 0: the asked feature", x.on(0, 0), 3);
        CHECK.due("run on 1", x.run(1), 1);
        CHECK.due("not for 1", x.live(0, 0), 0);
    }

    private static void askedAndDefaultFeaturesAreOn() {
        FeatureUnions x = packs(3);
        x.feature(1, 0, true, 0);
        x.feature(1, 31, false, 0);
        x.feature(1, 2, false, 0);
        x.feature(2, 0, true, 0);
        x.feature(2, 31, false, 0);
        x.user(0, 1, false, false, false, 255);
        x.user(0, 2, true, true, false, 255);
        x.asks(0, 31);
        CHECK.due("run", x.run(2), 3);
        CHECK.due("a default without defaults", x.on(0, 0), 0);
        CHECK.due("an asked one", x.on(1, 0), 3);
        CHECK.due("one not asked", x.on(2, 0), 0);
        CHECK.due("a default on the far side", x.on(3, 1), 3);
        CHECK.due("a default on the near side", x.on(3, 0), 0);
        CHECK.due("the name that another pack was asked for", x.on(4, 1), 0);
    }

    private static void turnsOfEachKind() {
        FeatureUnions x = new FeatureUnions();
        x.pack(true);
        x.pack(true);
        x.pack(true);
        x.root(0, true);
        x.feature(0, 0, true, 0);
        x.feature(0, 1, false, 0);
        x.feature(1, 0, false, 0);
        x.feature(1, 1, true, 0);
        x.user(0, 1, false, true, true, 255);
        x.user(0, 2, false, false, true, 255);
        x.turn(0, 0, 0, 1);
        x.turn(1, 2, 0, 0);
        x.turn(1, 1, 1, 0);
        CHECK.due("run", x.run(0), 5);
        CHECK.due("kind 0: the other feature", x.on(1, 0), 3);
        CHECK.due("kind 0: not on the other side", x.on(1, 1), 0);
        CHECK.due("kind 2: the user", x.live(0, 0), 4);
        CHECK.due("kind 2: the feature, before its pack", x.on(2, 1), 4);
        CHECK.due("kind 2: the pack", x.there(1, 1), 5);
        CHECK.due("kind 2: not the near side", x.on(2, 0), 0);
        CHECK.due("kind 2: no defaults", x.on(3, 1), 0);
        CHECK.due("kind 1: the user", x.live(1, 0), 4);
        CHECK.due("kind 1: the pack", x.there(2, 0), 5);
    }

    private static void weakTurnsWaitForTheirUser() {
        FeatureUnions x = packs(3);
        x.root(1, true);
        x.feature(1, 0, true, 0);
        x.feature(1, 1, false, 0);
        x.feature(2, 0, false, 0);
        x.user(0, 1, false, false, false, 255);
        x.user(1, 2, false, false, true, 255);
        x.turn(0, 3, 1, 0);
        CHECK.due("run without the user", x.run(0), 2);
        CHECK.due("a weak turn brings no user", x.live(1, 0), 0);
        CHECK.due("nor the feature", x.on(2, 0), 0);
        x.turn(1, 1, 1, 0);
        x.asks(0, 1);
        CHECK.due("run with the user", x.run(0), 5);
        CHECK.due("the user is live later than the feature is on", x.live(1, 0), 4);
        CHECK.due("and the weak turn after both", x.on(2, 0), 5);
    }

    private static void weakTurnsWaitForTheirFeature() {
        FeatureUnions x = packs(2);
        x.feature(0, 0, false, 0);
        x.feature(1, 0, false, 0);
        x.user(0, 1, false, true, false, 255);
        x.user(0, 0, false, false, false, 255);
        x.turn(0, 3, 0, 0);
        CHECK.due("run without the feature", x.run(0), 3);
        CHECK.due("a live user alone turns nothing on", x.on(1, 1), 0);
        x.asks(1, 0);
        CHECK.due("run with the feature", x.run(0), 4);
        CHECK.due("the feature is on later than the user is live", x.on(0, 0) - x.live(0, 0), 1);
        CHECK.due("and the weak turn after both, on the far side", x.on(1, 1), 4);
        CHECK.due("and not on the near side", x.on(1, 0), 0);
    }

    private static void featuresCrossSidesUnlessApart() {
        for (int apart = 0; apart < 2; apart++) {
            FeatureUnions x = new FeatureUnions();
            x.pack(apart == 1);
            x.pack(apart == 1);
            x.root(0, true);
            x.feature(0, 0, true, 0);
            x.feature(0, 1, false, 0);
            x.feature(1, 0, true, 0);
            x.user(0, 0, false, true, false, 255);
            x.user(0, 1, true, true, false, 255);
            x.asks(0, 1);
            String of = apart == 1 ? "apart: " : "not apart: ";
            CHECK.due(of + "run", x.run(0), 4);
            CHECK.due(of + "pack 0 on build", x.there(0, 1), 3);
            CHECK.due(of + "run to build", x.on(0, 1), apart == 1 ? 0 : 4);
            CHECK.due(of + "asked on build", x.on(1, 1), 3);
            CHECK.due(of + "build to run", x.on(1, 0), apart == 1 ? 0 : 4);
            CHECK.due(of + "pack 1 isn't there on run", x.on(2, 0), 0);
        }
    }

    private static void circlesDoNotHoldThemselves() {
        FeatureUnions x = packs(3);
        x.feature(0, 0, false, 0);
        x.feature(0, 1, false, 0);
        x.turn(0, 0, 0, 1);
        x.turn(1, 0, 0, 0);
        x.user(1, 2, false, false, false, 255);
        x.user(2, 1, false, false, false, 255);
        x.user(0, 0, false, false, true, 255);
        x.turn(0, 2, 2, 0);
        CHECK.due("run", x.run(0), 1);
        CHECK.due("features of a circle", x.on(0, 0) + x.on(1, 0), 0);
        CHECK.due("packs of a circle", x.there(1, 0) + x.there(2, 0), 0);
    }

    private static void theLeastStageCounts() {
        FeatureUnions x = packs(3);
        x.user(0, 1, false, false, false, 255);
        x.user(1, 2, false, false, false, 255);
        x.feature(2, 0, false, 0);
        x.asks(1, 0);
        CHECK.due("the long way", x.run(0), 5);
        CHECK.due("the feature the long way", x.on(0, 0), 5);
        x.user(0, 2, false, false, false, 255);
        CHECK.due("a short way", x.run(0), 5);
        CHECK.due("the pack the short way", x.there(2, 0), 3);
        CHECK.due("the feature still the long way", x.on(0, 0), 5);
        x.asks(2, 0);
        CHECK.due("both short", x.run(0), 4);
        CHECK.due("the feature the short way", x.on(0, 0), 3);
    }

    private static void answersAreOfTheLatestRun() {
        FeatureUnions x = new FeatureUnions();
        x.pack(false);
        x.root(0, true);
        x.feature(0, 0, true, 0);
        CHECK.due("there before a run", x.there(0, 0), 0);
        CHECK.due("on before a run", x.on(0, 0), 0);
        CHECK.due("run", x.run(0), 2);
        x.feature(0, 1, true, 0);
        x.user(0, 0, true, true, false, 255);
        x.pack(false);
        x.root(1, true);
        CHECK.due("a feature that came since", x.on(1, 0), 0);
        CHECK.due("a user that came since", x.live(0, 0), 0);
        CHECK.due("a root that came since", x.there(1, 0), 0);
        CHECK.due("what was there is kept", x.there(0, 0), 1);
        CHECK.due("what was on is kept", x.on(0, 0), 2);
        CHECK.due("what the new user would bring", x.there(0, 1), 0);
        CHECK.due("run again", x.run(0), 4);
        CHECK.due("the feature now", x.on(1, 0), 2);
        CHECK.due("the user now", x.live(0, 0), 2);
        CHECK.due("the root now", x.there(1, 0), 1);
        CHECK.due("the build side now", x.there(0, 1), 3);
    }

    private static void wrongArgumentsAnswerZero() {
        FeatureUnions x = packs(2);
        x.feature(1, 0, false, 0);
        x.user(0, 1, false, true, false, 255);
        x.user(0, 1, false, false, false, 255);
        x.asks(0, 0);
        CHECK.due("run", x.run(0), 4);
        CHECK.due("all on both sides", x.there(1, 0) * x.there(1, 1) * x.on(0, 0) * x.on(0, 1), 108);
        int[] odd = {-2, -1, 2, 3, 10, 40, 60, Integer.MIN_VALUE, Integer.MAX_VALUE};
        for (int side : odd) {
            CHECK.due("there on side " + side, x.there(1, side), 0);
            CHECK.due("live on side " + side, x.live(0, side), 0);
            CHECK.due("on on side " + side, x.on(0, side), 0);
        }
        for (int number : odd) {
            CHECK.due("there of " + number, x.there(number, 0), 0);
            CHECK.due("live of " + number, x.live(number, 0), 0);
            CHECK.due("on of " + number, x.on(number, 0), 0);
        }
    }
}
