/**
 * The edges that the Terms and promises 8 to 11 name, one function for each. No object is used for
 * more than 512 calls, as the document promises nothing about later ones.
 */
public final class RunEdgesTest {
    private static final int NONE = Edges.NONE;
    private static final int ALL = Edges.ALL;
    private static final Check CHECK = new Check("RunEdgesTest");

    public static void main(String[] args) {
        promise8();
        promises9To11();
        CHECK.finish();
    }

    private static void promise8() {
        platformsAreZeroToSeven();
        aRefusedRunChangesNothing();
        withoutRootsNothingIs();
        whatWantsNothingHasStageOne();
        theGreatestStageMayBeOfAnyItem();
        theLongestChain();
        runsOfAFullObject();
        everyRowIsUsed();
        kind1TurnsItsUserOnAlone();
    }

    private static void platformsAreZeroToSeven() {
        FeatureUnions x = Edges.full();
        for (int platform : Edges.outside(8)) {
            CHECK.due("run " + platform, x.run(platform), NONE);
            CHECK.due("there after it", x.there(0, 0), 0);
        }
        int first = x.run(0);
        CHECK.due("run 0 brings more than the roots", first > 2, true);
        for (int platform = 1; platform < 8; platform++) {
            CHECK.due("run " + platform, x.run(platform), first);
        }
    }

    private static void aRefusedRunChangesNothing() {
        FeatureUnions x = Edges.packs(2);
        x.root(0, false);
        x.feature(1, 0, false, 0);
        x.user(0, 1, false, false, false, 1 << 2);
        x.asks(0, 0);
        CHECK.due("run 2", x.run(2), 3);
        for (int platform : Edges.outside(8)) {
            CHECK.due("run " + platform, x.run(platform), NONE);
            CHECK.due("there", x.there(1, 0), 3);
            CHECK.due("live", x.live(0, 0), 2);
            CHECK.due("on", x.on(0, 0), 3);
            CHECK.due("reasons", x.reasons(0, 0), 1);
            CHECK.due("without", x.without(0, 0), 1);
            CHECK.due("left", x.left(0), 0);
        }
        x.pack(false);
        x.run(8);
        CHECK.due("there is no new run for without", x.without(0, 0), NONE);
    }

    private static void withoutRootsNothingIs() {
        FeatureUnions x = Edges.packs(2);
        CHECK.due("packs alone", x.run(0), 0);
        x.feature(0, 0, true, 1);
        x.feature(0, 1, true, 1);
        x.user(0, 1, true, false, false, ALL);
        x.user(1, 0, true, true, false, ALL);
        x.asks(1, 0);
        x.turn(0, 0, 0, 1);
        x.turn(1, 2, 0, 0);
        CHECK.due("everything but roots", x.run(0), 0);
        for (int stage : Edges.stages(x, 2, 2, 2)) {
            CHECK.due("a stage without roots", stage, 0);
        }
        CHECK.due("a clash without roots", x.clash(0, 0), NONE);
        CHECK.due("an asking without roots brings nothing", x.without(1, 0), 0);
    }

    private static void whatWantsNothingHasStageOne() {
        FeatureUnions x = Edges.packs(10);
        x.root(9, false);
        CHECK.due("a root alone", x.run(7), 1);
        CHECK.due("the root on run", x.there(9, 0), 1);
        CHECK.due("the root on build", x.there(9, 1), 0);
        for (int pack = 0; pack < 9; pack++) {
            CHECK.due("no root, pack " + pack, x.there(pack, 0) + x.there(pack, 1), 0);
        }
    }

    private static void theGreatestStageMayBeOfAnyItem() {
        FeatureUnions x = Edges.packs(2);
        x.root(0, true);
        CHECK.due("of a root", x.run(0), 1);
        x.user(0, 0, false, false, false, ALL);
        CHECK.due("of a user", x.run(0), 2);
        x.user(0, 1, false, false, false, ALL);
        CHECK.due("of a pack", x.run(0), 3);
        x.feature(0, 0, true, 0);
        x.feature(0, 1, false, 0);
        x.feature(0, 2, false, 0);
        x.turn(0, 0, 0, 1);
        CHECK.due("of a feature and a pack", x.run(0), 3);
        x.turn(1, 0, 0, 2);
        CHECK.due("of a feature", x.run(0), 4);
    }

    /**
     * Features 0 .. 59 turn one another on, by KIND 0 within a pack and KIND 2 to the next; the last
     * turns the first on again, for building.
     */
    private static void theLongestChain() {
        FeatureUnions x = new FeatureUnions();
        for (int pack = 0; pack < 6; pack++) {
            x.pack(true);
        }
        for (int feature = 0; feature < 60; feature++) {
            x.feature(feature / 10, feature % 10, feature == 0, 0);
        }
        for (int pack = 0; pack < 6; pack++) {
            x.user(pack, (pack + 1) % 6, false, pack == 5, true, ALL);
        }
        for (int feature = 0; feature < 60; feature++) {
            int kind = feature % 10 == 9 ? 2 : 0;
            CHECK.due("row " + feature, x.turn(feature, kind, feature / 10, (feature + 1) % 10), feature);
        }
        x.root(0, true);
        CHECK.due("run", x.run(0), 122);
        for (int feature = 0; feature < 60; feature++) {
            CHECK.due("feature " + feature + " on run", x.on(feature, 0), 2 + feature);
            CHECK.due("feature " + feature + " on build", x.on(feature, 1), 62 + feature);
        }
        CHECK.due("the last user on run", x.live(5, 0), 62);
        CHECK.due("the first pack on build", x.there(0, 1), 63);
        CHECK.due("the last user on build", x.live(5, 1), 122);
    }

    private static void runsOfAFullObject() {
        FeatureUnions x = Edges.full();
        CHECK.due("no pack more", x.pack(false), NONE);
        CHECK.due("no feature more", x.feature(9, 9, false, 0), NONE);
        CHECK.due("no root more", x.root(9, false), false);
        CHECK.due("no user more", x.user(9, 9, false, false, false, ALL), NONE);
        CHECK.due("no turn more", x.turn(0, 0, 0, 1), NONE);
        int greatest = x.run(0);
        int seen = 0;
        for (int stage : Edges.stages(x, 10, 40, 60)) {
            CHECK.due("a stage in 0 .. " + greatest, stage >= 0 && stage <= greatest, true);
            seen = Math.max(seen, stage);
        }
        CHECK.due("the greatest stage", seen, greatest);
    }

    /** One asking, turned on by the last row alone, through the last user, of the last pack's last feature. */
    private static void everyRowIsUsed() {
        FeatureUnions x = Edges.packs(10);
        for (int i = 0; i < 60; i++) {
            x.feature(i % 10, i / 10, i == 49, 0);
        }
        for (int user = 0; user < 40; user++) {
            x.user(user < 39 ? 8 : 9, user < 39 ? 8 : 9, false, user == 39, user == 39, ALL);
        }
        for (int row = 0; row < 59; row++) {
            x.turn(0, 0, 0, 5);
        }
        CHECK.due("the last row", x.turn(49, 2, 39, 5), 59);
        x.root(9, true);
        CHECK.due("run", x.run(7), 6);
        CHECK.due("the last pack", x.there(9, 0), 1);
        CHECK.due("its default", x.on(49, 0), 2);
        CHECK.due("the last user", x.live(39, 0), 3);
        CHECK.due("the last feature on build", x.on(59, 1), 3);
        CHECK.due("the last pack on build", x.there(9, 1), 4);
        CHECK.due("the last feature on run", x.on(59, 0), 4);
        CHECK.due("the default on build", x.on(49, 1), 5);
        CHECK.due("the last user on build", x.live(39, 1), 6);
        CHECK.due("the last row's reason, kind", x.reason(59, 1, 0, 0), 4);
        CHECK.due("the last row's reason, number", x.reason(59, 1, 0, 1), 118);
    }

    /** All rows are full, so that a turn without another feature could reach a neighbouring row. */
    private static void kind1TurnsItsUserOnAlone() {
        FeatureUnions x = Edges.packs(10);
        for (int feature = 0; feature < 60; feature++) {
            x.feature(feature / 6, feature % 6, feature == 0, 0);
        }
        for (int user = 0; user < 40; user++) {
            x.user(0, 1, false, user == 1, true, user < 2 ? ALL : 0);
        }
        x.turn(0, 1, 0, 5);
        x.turn(0, 1, 1, 5);
        x.turn(0, 0, 0, 1);
        x.turn(1, 1, 0, 5);
        x.root(0, true);
        CHECK.due("run", x.run(0), 4);
        int above = 0;
        for (int stage : Edges.stages(x, 10, 40, 60)) {
            above += stage > 0 ? 1 : 0;
        }
        CHECK.due("the root", x.there(0, 0), 1);
        CHECK.due("its default", x.on(0, 0), 2);
        CHECK.due("a feature that turns on the user again", x.on(1, 0), 3);
        CHECK.due("the user for running", x.live(0, 0), 3);
        CHECK.due("the user for building", x.live(1, 0), 3);
        CHECK.due("the needed pack on run", x.there(1, 0), 4);
        CHECK.due("the needed pack on build", x.there(1, 1), 4);
        CHECK.due("and nothing else", above, 7);
    }

    private static void promises9To11() {
        zeroBeforeARun();
        zeroForWhatHasComeSince();
        whatComesSinceChangesNoStage();
        theLatestRunThatWasNotNone();
        sidesAreZeroAndOne();
        numbersOutsideASmallObject();
        numbersOutsideAFullObject();
        zeroIfItIsNot();
    }

    private static void zeroBeforeARun() {
        FeatureUnions x = Edges.full();
        for (int stage : Edges.stages(x, 10, 40, 60)) {
            CHECK.due("a stage before a run", stage, 0);
        }
        x.run(8);
        CHECK.due("there after a refused run", x.there(0, 0), 0);
        CHECK.due("live after a refused run", x.live(0, 0), 0);
        CHECK.due("on after a refused run", x.on(0, 0), 0);
    }

    private static void zeroForWhatHasComeSince() {
        FeatureUnions x = Edges.packs(1);
        x.root(0, true);
        x.run(0);
        int pack = x.pack(false);
        x.root(pack, true);
        int feature = x.feature(0, 0, true, 0);
        int user = x.user(0, pack, true, false, false, ALL);
        int later = x.feature(pack, 0, true, 0);
        x.asks(user, 0);
        for (int side = 0; side < 2; side++) {
            CHECK.due("a pack that came since", x.there(pack, side), 0);
            CHECK.due("a user that came since", x.live(user, side), 0);
            CHECK.due("a feature that came since", x.on(feature, side), 0);
            CHECK.due("a feature of a pack that came since", x.on(later, side), 0);
        }
        CHECK.due("run", x.run(0), 2);
        CHECK.due("the pack now", x.there(pack, 0), 1);
        CHECK.due("the user now", x.live(user, 0), 2);
        CHECK.due("the feature now", x.on(feature, 0), 2);
        CHECK.due("the other feature now", x.on(later, 0), 2);
    }

    /** Pack 0 needs 1; feature 0 (pack 0) is ON; each thing told since would bring or hasten something. */
    private static void whatComesSinceChangesNoStage() {
        for (int thing = 0; thing < 4; thing++) {
            FeatureUnions x = Edges.packs(2);
            x.feature(0, 0, true, 0);
            x.feature(1, 0, false, 0);
            x.feature(1, 1, true, 0);
            x.root(0, true);
            x.user(0, 1, false, false, false, ALL);
            x.user(0, 1, true, true, true, ALL);
            x.run(0);
            int[] before = Edges.stages(x, 2, 2, 3);
            switch (thing) {
                case 0 -> CHECK.due("root since", x.root(1, true), true);
                case 1 -> CHECK.due("asks since", x.asks(0, 0), 1);
                case 2 -> CHECK.due("turn since", x.turn(0, 1, 1, 0), 0);
                default -> CHECK.due("user since", x.user(0, 1, true, true, false, ALL), 2);
            }
            CHECK.due("thing " + thing + ", before a run", Edges.same(before, Edges.stages(x, 2, 2, 3)), true);
            x.run(0);
            CHECK.due("thing " + thing + ", after a run", Edges.same(before, Edges.stages(x, 2, 2, 3)), false);
        }
    }

    private static void theLatestRunThatWasNotNone() {
        FeatureUnions x = Edges.packs(2);
        x.root(0, false);
        x.feature(1, 0, false, 0);
        x.user(0, 1, false, false, false, 1 << 4);
        x.asks(0, 0);
        int[] platforms = {4, 3, -1, 4, 8, 5};
        int[] dues = {1, 0, 0, 1, 1, 0};
        for (int i = 0; i < platforms.length; i++) {
            x.run(platforms[i]);
            String of = "after " + (i + 1) + " runs: ";
            CHECK.due(of + "live", x.live(0, 0), 2 * dues[i]);
            CHECK.due(of + "there", x.there(1, 0), 3 * dues[i]);
            CHECK.due(of + "on", x.on(0, 0), 3 * dues[i]);
        }
    }

    private static void sidesAreZeroAndOne() {
        FeatureUnions x = Edges.full();
        x.run(0);
        for (int side : Edges.outside(2)) {
            CHECK.due("there, side " + side, x.there(5, side), 0);
            CHECK.due("live, side " + side, x.live(20, side), 0);
            CHECK.due("on, side " + side, x.on(31, side), 0);
        }
        for (int side = 0; side < 2; side++) {
            CHECK.due("there, side " + side, x.there(5, side) > 0, true);
            CHECK.due("live, side " + side, x.live(20, side) > 0, true);
            CHECK.due("on, side " + side, x.on(31, side) > 0, true);
        }
    }

    private static void numbersOutsideASmallObject() {
        FeatureUnions x = Edges.packs(1);
        x.feature(0, 0, true, 0);
        x.root(0, true);
        x.user(0, 0, true, true, false, ALL);
        x.run(0);
        for (int side = 0; side < 2; side++) {
            for (int number : Edges.outside(1)) {
                CHECK.due("there of " + number, x.there(number, side), 0);
                CHECK.due("live of " + number, x.live(number, side), 0);
                CHECK.due("on of " + number, x.on(number, side), 0);
            }
            CHECK.due("the only ones", x.there(0, side) * x.live(0, side) * x.on(0, side) > 0, true);
        }
    }

    private static void numbersOutsideAFullObject() {
        FeatureUnions x = Edges.full();
        x.run(0);
        for (int side = 0; side < 2; side++) {
            for (int number : Edges.outside(10)) {
                CHECK.due("there of " + number, x.there(number, side), 0);
            }
            for (int number : Edges.outside(40)) {
                CHECK.due("live of " + number, x.live(number, side), 0);
            }
            for (int number : Edges.outside(60)) {
                CHECK.due("on of " + number, x.on(number, side), 0);
            }
        }
        CHECK.due("the last pack", x.there(9, 0), 1);
        CHECK.due("the last pack's first user", x.live(36, 0), 2);
    }

    private static void zeroIfItIsNot() {
        FeatureUnions x = Edges.packs(2);
        x.root(0, true);
        x.feature(0, 0, false, 0);
        x.user(0, 1, false, false, true, ALL);
        CHECK.due("run", x.run(0), 1);
        CHECK.due("a pack that nobody needs", x.there(1, 0) + x.there(1, 1), 0);
        CHECK.due("an optional user", x.live(0, 0) + x.live(0, 1), 0);
        CHECK.due("a feature without a reason", x.on(0, 0) + x.on(0, 1), 0);
    }
}
