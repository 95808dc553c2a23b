/** Promises 1 to 7: what is told, its numbers, its limits, and what is refused. */
public final class TellingTest {
    private static final int NONE = FeatureUnions.NONE;
    private static final Check CHECK = new Check("TellingTest");

    public static void main(String[] args) {
        aNewObjectHasNothing();
        packsAreNumberedUpToTen();
        featuresAreRefusedForWrongArguments();
        aPackHasAtMostTenFeatures();
        thereAreAtMostSixtyFeatures();
        aPackIsARootOnce();
        usersNeedPacksAndAreAtMostForty();
        asksTellsWhatIsWrongInOrder();
        turnsOfKind0();
        turnsOfKind1();
        turnsOfKinds2And3();
        turnsAreAtMostSixty();
        CHECK.finish();
    }

    private static void aNewObjectHasNothing() {
        FeatureUnions x = new FeatureUnions();
        CHECK.due("feature of a new object", x.feature(0, 0, true, 0), NONE);
        CHECK.due("root of a new object", x.root(0, true), false);
        CHECK.due("user of a new object", x.user(0, 0, true, false, false, 255), NONE);
        CHECK.due("asks of a new object", x.asks(0, 0), -1);
        CHECK.due("turn of a new object", x.turn(0, 0, 0, 0), NONE);
        CHECK.due("run of a new object", x.run(0), 0);
        CHECK.due("pack of a new object", x.pack(false), 0);
    }

    private static void packsAreNumberedUpToTen() {
        FeatureUnions x = new FeatureUnions();
        for (int i = 0; i < 10; i++) {
            CHECK.due("pack " + i, x.pack(i % 2 == 0), i);
        }
        CHECK.due("an eleventh pack", x.pack(false), NONE);
        CHECK.due("a twelfth pack", x.pack(true), NONE);
        CHECK.due("the tenth is there", x.root(9, false), true);
        CHECK.due("the eleventh is not", x.root(10, false), false);
    }

    private static void featuresAreRefusedForWrongArguments() {
        FeatureUnions x = new FeatureUnions();
        x.pack(false);
        x.pack(false);
        for (int pack : new int[] {-1, 2, Integer.MIN_VALUE, Integer.MAX_VALUE}) {
            CHECK.due("feature of pack " + pack, x.feature(pack, 0, true, 0), NONE);
        }
        for (int name : new int[] {-1, 32, Integer.MIN_VALUE, Integer.MAX_VALUE}) {
            CHECK.due("feature of name " + name, x.feature(0, name, true, 0), NONE);
        }
        for (int group : new int[] {-1, 8, Integer.MIN_VALUE, Integer.MAX_VALUE}) {
            CHECK.due("feature of group " + group, x.feature(0, 0, true, group), NONE);
        }
        CHECK.due("the least name", x.feature(0, 0, true, 0), 0);
        CHECK.due("the greatest name and group", x.feature(0, 31, false, 7), 1);
        CHECK.due("the same name", x.feature(0, 31, true, 1), NONE);
        CHECK.due("the same name in another pack", x.feature(1, 31, true, 1), 2);
    }

    private static void aPackHasAtMostTenFeatures() {
        FeatureUnions x = new FeatureUnions();
        x.pack(false);
        x.pack(false);
        for (int name = 0; name < 10; name++) {
            CHECK.due("feature " + name, x.feature(1, name, false, 0), name);
        }
        CHECK.due("an eleventh feature of one pack", x.feature(1, 10, false, 0), NONE);
        CHECK.due("a feature of the other pack", x.feature(0, 10, false, 0), 10);
    }

    private static void thereAreAtMostSixtyFeatures() {
        FeatureUnions x = new FeatureUnions();
        for (int pack = 0; pack < 7; pack++) {
            x.pack(false);
        }
        for (int i = 0; i < 60; i++) {
            CHECK.due("feature " + i, x.feature(i / 10, i % 10, false, 0), i);
        }
        CHECK.due("a sixty-first feature", x.feature(6, 0, false, 0), NONE);
    }

    private static void aPackIsARootOnce() {
        FeatureUnions x = new FeatureUnions();
        x.pack(false);
        x.feature(0, 0, true, 0);
        CHECK.due("root -1", x.root(-1, true), false);
        CHECK.due("root 1", x.root(1, true), false);
        CHECK.due("root MIN", x.root(Integer.MIN_VALUE, true), false);
        CHECK.due("root MAX", x.root(Integer.MAX_VALUE, true), false);
        CHECK.due("root 0", x.root(0, false), true);
        CHECK.due("root 0 again", x.root(0, false), false);
        CHECK.due("root 0 with defaults now", x.root(0, true), false);
        x.run(0);
        CHECK.due("the refused root brought no defaults", x.on(0, 0), 0);
    }

    private static void usersNeedPacksAndAreAtMostForty() {
        FeatureUnions x = new FeatureUnions();
        x.pack(false);
        x.pack(false);
        for (int pack : new int[] {-1, 2, Integer.MIN_VALUE, Integer.MAX_VALUE}) {
            CHECK.due("user from " + pack, x.user(pack, 0, true, false, false, 255), NONE);
            CHECK.due("user to " + pack, x.user(0, pack, true, false, false, 255), NONE);
        }
        CHECK.due("a user of itself", x.user(1, 1, true, false, false, 255), 0);
        CHECK.due("a user on no platform", x.user(0, 1, true, false, false, 0), 1);
        CHECK.due("a user on odd platforms", x.user(0, 1, true, false, false, -256), 2);
        for (int i = 3; i < 40; i++) {
            CHECK.due("user " + i, x.user(0, 1, false, true, true, 1), i);
        }
        CHECK.due("a forty-first user", x.user(0, 1, false, true, true, 1), NONE);
    }

    private static void asksTellsWhatIsWrongInOrder() {
        FeatureUnions x = new FeatureUnions();
        x.pack(false);
        x.pack(false);
        x.feature(0, 5, false, 0);
        x.feature(1, 31, false, 0);
        x.feature(1, 0, false, 0);
        x.user(0, 1, false, false, false, 255);
        x.user(0, 1, false, false, false, 255);
        for (int user : new int[] {-1, 2, Integer.MIN_VALUE, Integer.MAX_VALUE}) {
            CHECK.due("asks of user " + user, x.asks(user, 99), -1);
        }
        for (int name : new int[] {-1, 1, 32, 63, Integer.MIN_VALUE, Integer.MAX_VALUE}) {
            CHECK.due("asks for name " + name, x.asks(0, name), -2);
        }
        CHECK.due("asks for a name of the needing pack", x.asks(0, 5), -2);
        CHECK.due("asks for 31", x.asks(0, 31), 1);
        CHECK.due("asks for 31 again", x.asks(0, 31), -3);
        CHECK.due("asks for 0", x.asks(0, 0), 1);
        CHECK.due("asks for 0 again", x.asks(0, 0), -3);
        CHECK.due("another user asks for 31", x.asks(1, 31), 1);
    }

    /** Packs 0 and 1; features 0 (pack 0, name 3), 1 (pack 0, name 4), 2 (pack 1, name 6);
     *  users 0 (0 to 1), 1 (0 to 1, optional), 2 (1 to 0, optional), 3 (0 to 0). */
    private static FeatureUnions forTurns() {
        FeatureUnions x = new FeatureUnions();
        x.pack(false);
        x.pack(false);
        x.feature(0, 3, false, 0);
        x.feature(0, 4, false, 0);
        x.feature(1, 6, false, 0);
        x.user(0, 1, false, false, false, 255);
        x.user(0, 1, false, false, true, 255);
        x.user(1, 0, false, false, true, 255);
        x.user(0, 0, false, false, false, 255);
        return x;
    }

    private static void turnsOfKind0() {
        FeatureUnions x = forTurns();
        for (int feature : new int[] {-1, 3, Integer.MIN_VALUE, Integer.MAX_VALUE}) {
            CHECK.due("turn of feature " + feature, x.turn(feature, 0, 0, 4), NONE);
        }
        for (int kind : new int[] {-1, 4, Integer.MIN_VALUE, Integer.MAX_VALUE}) {
            CHECK.due("turn of kind " + kind, x.turn(0, kind, 1, 6), NONE);
        }
        for (int name : new int[] {-1, 5, 6, 32, Integer.MIN_VALUE, Integer.MAX_VALUE}) {
            CHECK.due("kind 0, name " + name, x.turn(0, 0, 0, name), NONE);
        }
        CHECK.due("kind 0", x.turn(0, 0, 0, 4), 0);
        CHECK.due("kind 0, no such user means nothing", x.turn(1, 0, -7, 3), 1);
        CHECK.due("kind 0, another pack's user means nothing", x.turn(0, 0, 2, 4), 2);
        CHECK.due("kind 0, the same again", x.turn(0, 0, 2, 4), 3);
        CHECK.due("kind 0, the feature itself", x.turn(0, 0, 0, 3), NONE);
        CHECK.due("kind 0, another feature itself", x.turn(1, 0, 3, 4), NONE);
        CHECK.due("kind 0, the only feature of a pack itself", x.turn(2, 0, 0, 6), NONE);
        CHECK.due("kind 0, the refused ones took no number", x.turn(1, 0, 0, 3), 4);
    }

    private static void turnsOfKind1() {
        FeatureUnions x = forTurns();
        CHECK.due("kind 1, not optional", x.turn(0, 1, 0, 6), NONE);
        CHECK.due("kind 1, another pack's user", x.turn(0, 1, 2, 3), NONE);
        for (int user : new int[] {-1, 4, Integer.MIN_VALUE, Integer.MAX_VALUE}) {
            CHECK.due("kind 1, user " + user, x.turn(0, 1, user, 6), NONE);
        }
        CHECK.due("kind 1", x.turn(0, 1, 1, 6), 0);
        CHECK.due("kind 1, no such name means nothing", x.turn(0, 1, 1, -9), 1);
        CHECK.due("kind 1, of pack 1", x.turn(2, 1, 2, 99), 2);
        CHECK.due("kind 1, the feature's own name means nothing", x.turn(0, 1, 1, 3), 3);
    }

    private static void turnsOfKinds2And3() {
        for (int kind = 2; kind <= 3; kind++) {
            FeatureUnions x = forTurns();
            String of = "kind " + kind + ", ";
            for (int user : new int[] {-1, 4, Integer.MIN_VALUE, Integer.MAX_VALUE}) {
                CHECK.due(of + "user " + user, x.turn(0, kind, user, 6), NONE);
            }
            CHECK.due(of + "another pack's user", x.turn(0, kind, 2, 3), NONE);
            for (int name : new int[] {-1, 4, 7, 32, Integer.MIN_VALUE, Integer.MAX_VALUE}) {
                CHECK.due(of + "name " + name, x.turn(0, kind, 0, name), NONE);
            }
            CHECK.due(of + "a user that isn't optional", x.turn(0, kind, 0, 6), 0);
            CHECK.due(of + "an optional user", x.turn(0, kind, 1, 6), 1);
            CHECK.due(of + "a user of its own pack", x.turn(0, kind, 3, 4), 2);
            CHECK.due(of + "the feature itself, through that user", x.turn(0, kind, 3, 3), 3);
        }
    }

    private static void turnsAreAtMostSixty() {
        FeatureUnions x = forTurns();
        for (int i = 0; i < 60; i++) {
            CHECK.due("turn " + i, x.turn(0, i % 4, 1, i % 4 == 0 ? 4 : 6), i);
        }
        for (int kind = 0; kind < 4; kind++) {
            CHECK.due("a sixty-first turn", x.turn(0, kind, 1, kind == 0 ? 4 : 6), NONE);
        }
    }
}
