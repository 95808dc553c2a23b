/**
 * The edges that the Terms and promises 1 to 7 name, one function for each. No object is used for
 * more than 512 calls, as the document promises nothing about later ones.
 */
public final class TellingEdgesTest {
    private static final int NONE = Edges.NONE;
    private static final int ALL = Edges.ALL;
    private static final Check CHECK = new Check("TellingEdgesTest");

    public static void main(String[] args) {
        promise1();
        promise2();
        promise3();
        promise4();
        promise5();
        promise6();
        promise7();
        CHECK.finish();
    }

    private static void promise1() {
        aNewObjectTakesNothingButPacks();
        aNewObjectTellsNothing();
        objectsShareNothing();
    }

    private static void aNewObjectTakesNothingButPacks() {
        FeatureUnions x = new FeatureUnions();
        for (int odd : new int[] {0, 1, -1, Integer.MIN_VALUE, Integer.MAX_VALUE}) {
            CHECK.due("new: feature of pack " + odd, x.feature(odd, 0, true, 0), NONE);
            CHECK.due("new: root " + odd, x.root(odd, true), false);
            CHECK.due("new: user from and to " + odd, x.user(odd, odd, true, false, false, ALL), NONE);
            CHECK.due("new: asks of user " + odd, x.asks(odd, 0), -1);
            for (int kind = 0; kind < 4; kind++) {
                CHECK.due("new: turn of feature " + odd, x.turn(odd, kind, 0, 0), NONE);
            }
        }
        CHECK.due("new: the first pack", x.pack(true), 0);
    }

    private static void aNewObjectTellsNothing() {
        FeatureUnions x = new FeatureUnions();
        for (int platform = -1; platform < 8; platform++) {
            CHECK.due("new: there", x.there(0, 0), 0);
            CHECK.due("new: live", x.live(0, 0), 0);
            CHECK.due("new: on", x.on(0, 0), 0);
            CHECK.due("new: reasons", x.reasons(0, 0), 0);
            CHECK.due("new: reason", x.reason(0, 0, 0, 0), NONE);
            CHECK.due("new: clash", x.clash(0, 0), NONE);
            CHECK.due("new: without", x.without(0, 0), NONE);
            CHECK.due("new: left", x.left(0), NONE);
            CHECK.due("new: run " + platform, x.run(platform), platform < 0 ? NONE : 0);
        }
    }

    private static void objectsShareNothing() {
        FeatureUnions old = Edges.full();
        old.run(0);
        old.without(0, 1);
        FeatureUnions x = new FeatureUnions();
        CHECK.due("beside a full one: run", x.run(0), 0);
        CHECK.due("beside a full one: there", x.there(0, 0), 0);
        CHECK.due("beside a full one: left", x.left(0), NONE);
        CHECK.due("beside a full one: root", x.root(0, true), false);
        CHECK.due("beside a full one: pack", x.pack(false), 0);
        CHECK.due("beside a new one: there", old.there(9, 0), 1);
    }

    private static void promise2() {
        tenPacksAndNoMore();
        aRefusedPackChangesNoPacksApartness();
    }

    private static void tenPacksAndNoMore() {
        FeatureUnions x = new FeatureUnions();
        for (int i = 0; i < 10; i++) {
            CHECK.due("pack " + i, x.pack(i % 2 == 0), i);
        }
        for (int i = 0; i < 5; i++) {
            CHECK.due("a pack too many", x.pack(i % 2 == 0), NONE);
        }
    }

    /** A feature that isn't APART goes from run to build, where the pack is by its own user. */
    private static void aRefusedPackChangesNoPacksApartness() {
        FeatureUnions x = new FeatureUnions();
        for (int i = 0; i < 10; i++) {
            x.pack(i % 2 == 0);
            x.feature(i, 0, true, 0);
            x.root(i, true);
            x.user(i, i, false, true, false, ALL);
        }
        x.pack(false);
        x.pack(true);
        x.run(0);
        for (int i = 0; i < 10; i++) {
            CHECK.due("feature of pack " + i + " on build", x.on(i, 1), i % 2 == 0 ? 0 : 4);
        }
    }

    private static void promise3() {
        featuresNeedAPack();
        namesAreZeroToThirtyOne();
        groupsAreZeroToSeven();
        aNameIsThereOnceInAPack();
        tenFeaturesOfAPackAndNoMore();
        sixtyFeaturesAndNoMore();
        refusedFeaturesTakeNoNumber();
    }

    private static void featuresNeedAPack() {
        for (int count = 1; count <= 10; count += 3) {
            FeatureUnions x = Edges.packs(count);
            for (int pack : Edges.outside(count)) {
                CHECK.due("of " + count + ": feature of pack " + pack, x.feature(pack, 0, false, 0), NONE);
            }
            CHECK.due("of " + count + ": the last pack", x.feature(count - 1, 0, false, 0), 0);
        }
    }

    private static void namesAreZeroToThirtyOne() {
        FeatureUnions x = Edges.packs(4);
        for (int name = 0; name < 32; name++) {
            CHECK.due("name " + name, x.feature(name / 10, name, false, 0), name);
        }
        for (int name : Edges.outside(32)) {
            CHECK.due("name " + name, x.feature(3, name, false, 0), NONE);
        }
    }

    private static void groupsAreZeroToSeven() {
        FeatureUnions x = Edges.packs(1);
        for (int group = 0; group < 8; group++) {
            CHECK.due("group " + group, x.feature(0, group, false, group), group);
        }
        for (int group : Edges.outside(8)) {
            CHECK.due("group " + group, x.feature(0, 8, false, group), NONE);
        }
    }

    private static void aNameIsThereOnceInAPack() {
        FeatureUnions x = Edges.packs(2);
        x.root(0, true);
        x.feature(0, 31, false, 0);
        x.feature(0, 0, true, 5);
        for (int group = 0; group < 8; group++) {
            CHECK.due("name 31 again", x.feature(0, 31, true, group), NONE);
            CHECK.due("name 0 again", x.feature(0, 0, false, group), NONE);
        }
        CHECK.due("name 31 in the other pack", x.feature(1, 31, true, 0), 2);
        CHECK.due("name 0 in the other pack", x.feature(1, 0, true, 0), 3);
        CHECK.due("name 0 in the other pack again", x.feature(1, 0, true, 0), NONE);
        x.run(0);
        CHECK.due("name 31 isn't BY DEFAULT still", x.on(0, 0), 0);
        CHECK.due("name 0 is BY DEFAULT still", x.on(1, 0), 2);
    }

    private static void tenFeaturesOfAPackAndNoMore() {
        FeatureUnions x = Edges.packs(3);
        for (int i = 0; i < 20; i++) {
            CHECK.due("feature " + i, x.feature(i % 2 * 2, 31 - i, false, 0), i);
        }
        for (int name = 0; name < 12; name++) {
            CHECK.due("an eleventh of pack 0", x.feature(0, name, false, 0), NONE);
            CHECK.due("an eleventh of pack 2", x.feature(2, name, false, 0), NONE);
        }
        for (int i = 0; i < 10; i++) {
            CHECK.due("feature " + i + " of pack 1", x.feature(1, i, false, 0), 20 + i);
        }
        CHECK.due("an eleventh of pack 1", x.feature(1, 10, false, 0), NONE);
    }

    private static void sixtyFeaturesAndNoMore() {
        FeatureUnions x = Edges.packs(10);
        for (int i = 0; i < 60; i++) {
            CHECK.due("feature " + i, x.feature(i % 10, i / 10, false, 0), i);
        }
        for (int pack = 0; pack < 10; pack++) {
            CHECK.due("a sixty-first, of pack " + pack + " that has six", x.feature(pack, 6, false, 0), NONE);
        }
    }

    private static void refusedFeaturesTakeNoNumber() {
        FeatureUnions x = Edges.packs(1);
        x.feature(1, 0, false, 0);
        x.feature(0, 32, false, 0);
        x.feature(0, 0, false, 8);
        CHECK.due("the first that isn't refused", x.feature(0, 0, false, 0), 0);
        x.feature(0, 0, false, 0);
        CHECK.due("the second that isn't refused", x.feature(0, 1, false, 0), 1);
    }

    private static void promise4() {
        rootsNeedAPack();
        allTenPacksMayBeRoots();
        aSecondRootingKeepsTheFirst();
    }

    private static void rootsNeedAPack() {
        for (int count = 0; count <= 10; count += 5) {
            FeatureUnions x = Edges.packs(count);
            for (int pack : Edges.outside(count)) {
                CHECK.due("of " + count + ": root " + pack, x.root(pack, true), false);
            }
            CHECK.due("of " + count + ": no refused root is one", x.run(0), 0);
        }
    }

    private static void allTenPacksMayBeRoots() {
        FeatureUnions x = Edges.packs(10);
        for (int pack = 0; pack < 10; pack++) {
            CHECK.due("root " + pack, x.root(pack, true), true);
            CHECK.due("root " + pack + " again", x.root(pack, true), false);
        }
        x.run(0);
        for (int pack = 0; pack < 10; pack++) {
            CHECK.due("root " + pack + " is there", x.there(pack, 0), 1);
        }
    }

    private static void aSecondRootingKeepsTheFirst() {
        FeatureUnions x = Edges.packs(2);
        x.feature(0, 0, true, 0);
        x.feature(1, 0, true, 0);
        CHECK.due("a root with defaults", x.root(0, true), true);
        CHECK.due("and now without", x.root(0, false), false);
        CHECK.due("a root without defaults", x.root(1, false), true);
        CHECK.due("and now with", x.root(1, true), false);
        x.run(0);
        CHECK.due("with defaults still", x.on(0, 0), 2);
        CHECK.due("without defaults still", x.on(1, 0), 0);
    }

    private static void promise5() {
        usersNeedTwoPacks();
        fortyUsersAndNoMore();
        aPackMayNeedItself();
        platformsAreBitsZeroToSeven();
        farSides();
    }

    private static void usersNeedTwoPacks() {
        for (int count = 1; count <= 10; count += 9) {
            FeatureUnions x = Edges.packs(count);
            for (int pack : Edges.outside(count)) {
                CHECK.due("from " + pack, x.user(pack, 0, true, false, false, ALL), NONE);
                CHECK.due("to " + pack, x.user(0, pack, true, false, false, ALL), NONE);
                CHECK.due("from and to " + pack, x.user(pack, pack, true, false, false, ALL), NONE);
            }
            CHECK.due("the refused took no number", x.user(0, count - 1, true, false, false, ALL), 0);
            CHECK.due("from the last", x.user(count - 1, 0, true, false, false, ALL), 1);
        }
    }

    private static void fortyUsersAndNoMore() {
        FeatureUnions x = Edges.packs(10);
        for (int i = 0; i < 40; i++) {
            CHECK.due("user " + i, x.user(i % 10, i / 10, i % 2 == 0, false, i % 3 == 0, i), i);
        }
        for (int i = 0; i < 10; i++) {
            CHECK.due("a user too many", x.user(i, 9 - i, true, false, false, ALL), NONE);
        }
        CHECK.due("the last asks", x.asks(39, 0), -2);
        CHECK.due("the one too many doesn't", x.asks(40, 0), -1);
    }

    private static void aPackMayNeedItself() {
        FeatureUnions x = Edges.packs(1);
        x.root(0, false);
        CHECK.due("itself for running", x.user(0, 0, false, false, false, ALL), 0);
        CHECK.due("itself for building", x.user(0, 0, false, true, false, ALL), 1);
        CHECK.due("run", x.run(0), 4);
        CHECK.due("it is there on run", x.there(0, 0), 1);
        CHECK.due("it is there on build", x.there(0, 1), 3);
        CHECK.due("its user is live on build", x.live(0, 1), 4);
    }

    private static void platformsAreBitsZeroToSeven() {
        int[] masks = {1, 2, 4, 8, 16, 32, 64, 128, 0, 255, -1, -256, 256, 1 << 30, Integer.MIN_VALUE,
            Integer.MAX_VALUE, 1 << 8 | 1 << 7, 1 << 16 | 1};
        FeatureUnions x = Edges.packs(1);
        x.root(0, false);
        for (int mask : masks) {
            x.user(0, 0, false, false, false, mask);
        }
        for (int platform = 0; platform < 8; platform++) {
            CHECK.due("run " + platform, x.run(platform), 2);
            for (int user = 0; user < masks.length; user++) {
                int due = (masks[user] & 1 << platform) != 0 ? 2 : 0;
                CHECK.due("mask " + masks[user] + " on " + platform, x.live(user, 0), due);
            }
        }
    }

    private static void farSides() {
        for (int build = 0; build < 2; build++) {
            for (int side = 0; side < 2; side++) {
                FeatureUnions x = Edges.packs(3);
                x.root(0, false);
                x.user(0, 1, false, side == 1, false, ALL);
                x.user(1, 2, false, build == 1, false, ALL);
                CHECK.due("run", x.run(0), 5);
                int far = build == 1 || side == 1 ? 1 : 0;
                String of = "for " + build + " on " + side + ": ";
                CHECK.due(of + "the near side", x.live(1, side), 4);
                CHECK.due(of + "the other near side", x.live(1, 1 - side), 0);
                CHECK.due(of + "the far side", x.there(2, far), 5);
                CHECK.due(of + "the other far side", x.there(2, 1 - far), 0);
            }
        }
    }

    private static void promise6() {
        aMissingUserIsToldFirst();
        onlyNamesOfTheNeededPack();
        namesDoNotWrapAround();
        aUserAsksOnce();
        everyNameMayBeAsked();
        featuresMayComeAfterTheUser();
    }

    private static void aMissingUserIsToldFirst() {
        FeatureUnions none = Edges.packs(1);
        none.feature(0, 0, false, 0);
        CHECK.due("no users at all", none.asks(0, 0), -1);
        FeatureUnions x = Edges.full();
        for (int user : Edges.outside(40)) {
            CHECK.due("user " + user + ", a name that is there", x.asks(user, 1), -1);
            CHECK.due("user " + user + ", a name that isn't", x.asks(user, -1), -1);
        }
    }

    private static void onlyNamesOfTheNeededPack() {
        FeatureUnions x = Edges.packs(3);
        x.feature(0, 4, false, 0);
        x.feature(2, 5, false, 0);
        x.user(0, 1, false, false, false, ALL);
        for (int name = 0; name < 32; name++) {
            CHECK.due("the needed pack has no feature, name " + name, x.asks(0, name), -2);
        }
        x.feature(1, 6, false, 0);
        for (int name = 0; name < 32; name++) {
            CHECK.due("the needed pack has name 6 alone, name " + name, x.asks(0, name), name == 6 ? 1 : -2);
        }
    }

    private static void namesDoNotWrapAround() {
        FeatureUnions x = Edges.packs(1);
        for (int name : new int[] {0, 1, 30, 31}) {
            x.feature(0, name, false, 0);
        }
        x.user(0, 0, false, false, false, ALL);
        for (int name : Edges.outside(32)) {
            CHECK.due("before asking, name " + name, x.asks(0, name), -2);
        }
        for (int name : new int[] {0, 1, 30, 31}) {
            CHECK.due("asking, name " + name, x.asks(0, name), 1);
        }
        for (int name : Edges.outside(32)) {
            CHECK.due("after asking, name " + name, x.asks(0, name), -2);
        }
    }

    private static void aUserAsksOnce() {
        FeatureUnions x = Edges.packs(1);
        x.feature(0, 7, false, 0);
        x.user(0, 0, false, false, false, ALL);
        x.user(0, 0, false, false, false, ALL);
        CHECK.due("the first time", x.asks(0, 7), 1);
        CHECK.due("the second time", x.asks(0, 7), -3);
        x.run(0);
        CHECK.due("after a run", x.asks(0, 7), -3);
        x.without(0, 7);
        CHECK.due("after a without", x.asks(0, 7), -3);
        CHECK.due("the other user", x.asks(1, 7), 1);
    }

    private static void everyNameMayBeAsked() {
        FeatureUnions x = Edges.packs(4);
        for (int pack = 0; pack < 4; pack++) {
            x.user(0, pack, false, false, false, ALL);
        }
        for (int name = 0; name < 32; name++) {
            x.feature(name / 8, name, false, 0);
            CHECK.due("name " + name, x.asks(name / 8, name), 1);
        }
        for (int name = 0; name < 32; name++) {
            CHECK.due("name " + name + " again", x.asks(name / 8, name), -3);
        }
    }

    private static void featuresMayComeAfterTheUser() {
        FeatureUnions x = Edges.packs(1);
        x.user(0, 0, false, false, false, ALL);
        CHECK.due("before the feature", x.asks(0, 9), -2);
        x.feature(0, 9, false, 0);
        CHECK.due("after it", x.asks(0, 9), 1);
    }

    private static void promise7() {
        turnsNeedAFeature();
        kindsAreZeroToThree();
        kind0WantsNoUser();
        kind1WantsNoName();
        usersOfTheFeaturesPackAlone();
        onlyKind1WantsAnOptionalUser();
        theOtherFeatureIsOfTheRightPack();
        onlyKind0RefusesTheFeatureItself();
        sixtyTurnsAndNoMore();
        refusedTurnsTakeNoNumber();
    }

    /**
     * Packs 0 and 1; features 0 (pack 0, name 3), 1 (pack 0, name 4), 2 (pack 1, name 3), 3 (pack 1,
     * name 6); users 0 (0 to 1), 1 (0 to 1, optional), 2 (1 to 0, optional), 3 (0 to 0),
     * 4 (0 to 0, optional).
     */
    private static FeatureUnions forTurns() {
        FeatureUnions x = Edges.packs(2);
        x.feature(0, 3, false, 0);
        x.feature(0, 4, false, 0);
        x.feature(1, 3, false, 0);
        x.feature(1, 6, false, 0);
        x.user(0, 1, false, false, false, ALL);
        x.user(0, 1, false, false, true, ALL);
        x.user(1, 0, false, false, true, ALL);
        x.user(0, 0, false, false, false, ALL);
        x.user(0, 0, false, false, true, ALL);
        return x;
    }

    private static void turnsNeedAFeature() {
        FeatureUnions x = forTurns();
        for (int feature : Edges.outside(4)) {
            for (int kind = 0; kind < 4; kind++) {
                CHECK.due("kind " + kind + " of feature " + feature, x.turn(feature, kind, 1, 3), NONE);
            }
        }
        CHECK.due("the first feature", x.turn(0, 0, 0, 4), 0);
        CHECK.due("the last feature", x.turn(3, 0, 0, 3), 1);
    }

    private static void kindsAreZeroToThree() {
        FeatureUnions x = forTurns();
        for (int kind : Edges.outside(4)) {
            CHECK.due("kind " + kind, x.turn(0, kind, 4, 4), NONE);
        }
        for (int kind = 0; kind < 4; kind++) {
            CHECK.due("kind " + kind, x.turn(0, kind, 4, 4), kind);
        }
    }

    private static void kind0WantsNoUser() {
        FeatureUnions x = forTurns();
        int due = 0;
        for (int user : Edges.outside(5)) {
            CHECK.due("kind 0, user " + user, x.turn(0, 0, user, 4), due);
            due++;
        }
        CHECK.due("kind 0, another pack's user", x.turn(0, 0, 2, 4), due);
        for (int name : Edges.outside(5)) {
            CHECK.due("kind 0, name " + name, x.turn(0, 0, 0, name), NONE);
        }
        CHECK.due("kind 0, a name of the pack that the user needs", x.turn(0, 0, 0, 6), NONE);
    }

    private static void kind1WantsNoName() {
        FeatureUnions x = forTurns();
        int due = 0;
        for (int name : Edges.outside(32)) {
            CHECK.due("kind 1, name " + name, x.turn(0, 1, 1, name), due);
            due++;
        }
        CHECK.due("kind 1, the feature's own name", x.turn(0, 1, 1, 3), due);
        CHECK.due("kind 1, its own name and a user to its own pack", x.turn(0, 1, 4, 3), due + 1);
    }

    private static void usersOfTheFeaturesPackAlone() {
        for (int kind = 1; kind < 4; kind++) {
            FeatureUnions x = forTurns();
            for (int user : Edges.outside(5)) {
                CHECK.due("kind " + kind + ", user " + user, x.turn(0, kind, user, 3), NONE);
            }
            CHECK.due("kind " + kind + ", a user that needs the feature's pack", x.turn(0, kind, 2, 3), NONE);
            CHECK.due("kind " + kind + ", that user for its own pack", x.turn(3, kind, 2, 3), 0);
            CHECK.due("kind " + kind + ", pack 0's user for pack 1", x.turn(3, kind, 1, 3), NONE);
        }
    }

    private static void onlyKind1WantsAnOptionalUser() {
        FeatureUnions x = forTurns();
        CHECK.due("kind 1, not optional", x.turn(0, 1, 0, 6), NONE);
        CHECK.due("kind 1, not optional, to its own pack", x.turn(0, 1, 3, 4), NONE);
        CHECK.due("kind 1, optional", x.turn(0, 1, 1, 6), 0);
        CHECK.due("kind 2, not optional", x.turn(0, 2, 0, 6), 1);
        CHECK.due("kind 2, optional", x.turn(0, 2, 1, 6), 2);
        CHECK.due("kind 3, not optional", x.turn(0, 3, 0, 6), 3);
        CHECK.due("kind 3, optional", x.turn(0, 3, 1, 6), 4);
    }

    private static void theOtherFeatureIsOfTheRightPack() {
        for (int kind = 2; kind < 4; kind++) {
            FeatureUnions x = forTurns();
            for (int name = -1; name < 40; name++) {
                int due = name == 3 ? 0 : name == 6 ? 1 : NONE;
                CHECK.due("kind " + kind + ", name " + name, x.turn(0, kind, 0, name), due);
            }
            for (int name : Edges.outside(32)) {
                CHECK.due("kind " + kind + ", name " + name, x.turn(0, kind, 0, name), NONE);
            }
        }
    }

    private static void onlyKind0RefusesTheFeatureItself() {
        FeatureUnions x = forTurns();
        for (int user = -1; user < 6; user++) {
            CHECK.due("kind 0, itself, user " + user, x.turn(0, 0, user, 3), NONE);
        }
        CHECK.due("kind 0, the last feature itself", x.turn(3, 0, 0, 6), NONE);
        CHECK.due("kind 2, itself", x.turn(0, 2, 3, 3), 0);
        CHECK.due("kind 2, itself, optional", x.turn(0, 2, 4, 3), 1);
        CHECK.due("kind 3, itself", x.turn(0, 3, 3, 3), 2);
        CHECK.due("kind 3, itself, optional", x.turn(0, 3, 4, 3), 3);
        CHECK.due("kind 2, the same name of another pack", x.turn(0, 2, 0, 3), 4);
        CHECK.due("kind 3, the same name of another pack", x.turn(0, 3, 0, 3), 5);
    }

    private static void sixtyTurnsAndNoMore() {
        FeatureUnions x = forTurns();
        for (int row = 0; row < 60; row++) {
            CHECK.due("row " + row, x.turn(0, row % 4, 4, 4), row);
        }
        for (int kind = 0; kind < 4; kind++) {
            CHECK.due("a row too many, kind " + kind, x.turn(0, kind, 4, 4), NONE);
            CHECK.due("a row too many, of another feature", x.turn(3, kind, 2, 3), NONE);
        }
    }

    private static void refusedTurnsTakeNoNumber() {
        FeatureUnions x = forTurns();
        x.turn(4, 0, 0, 4);
        x.turn(0, 4, 0, 4);
        x.turn(0, 1, 0, 4);
        x.turn(0, 2, 2, 4);
        x.turn(0, 3, 0, 4);
        x.turn(0, 0, 0, 3);
        CHECK.due("the first that isn't refused", x.turn(0, 0, 0, 4), 0);
        x.turn(0, 0, 0, 3);
        CHECK.due("the second that isn't refused", x.turn(0, 0, 0, 4), 1);
    }
}
