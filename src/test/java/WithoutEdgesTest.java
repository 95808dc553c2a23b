/**
 * The edges that promises 15 and 16 name, one function for each. No object is used for more than
 * 512 calls, as the document promises nothing about later ones.
 */
public final class WithoutEdgesTest {
    private static final int NONE = Edges.NONE;
    private static final int ALL = Edges.ALL;
    private static final Check CHECK = new Check("WithoutEdgesTest");

    public static void main(String[] args) {
        promise15();
        promise16();
        CHECK.finish();
    }

    private static void promise15() {
        noneIfThereWasNoRun();
        noneIfThereIsNoSuchUser();
        noneIfTheUserDidNotAsk();
        noneIfSomethingHasComeSince();
        anAskingThatCameSince();
        aRunAfterItMakesItGood();
        zeroIfNothingLeaves();
        zeroIfTheFeatureWasNotOn();
        onlyFeaturesAreCounted();
        bothSidesAreCountedTogether();
        circlesLeaveTogether();
        theOtherAskersKeepIt();
        weakTurnsLeaveWithTheirUser();
        onThatRunsPlatform();
        withoutChangesNothing();
        theLastUserAndTheEdgesOfNames();
    }

    /** Pack 0, a root, needs 1 and asks for features 0 and 1, names 0 and 31. */
    private static FeatureUnions asking() {
        FeatureUnions x = Edges.packs(2);
        x.feature(1, 0, false, 0);
        x.feature(1, 31, false, 0);
        x.feature(1, 5, false, 0);
        x.root(0, false);
        x.user(0, 1, false, false, false, ALL);
        x.asks(0, 0);
        x.asks(0, 31);
        x.user(0, 1, false, false, false, ALL);
        return x;
    }

    private static void noneIfThereWasNoRun() {
        FeatureUnions x = asking();
        CHECK.due("before a run", x.without(0, 0), NONE);
        for (int platform : Edges.outside(8)) {
            x.run(platform);
            CHECK.due("after run " + platform, x.without(0, 0), NONE);
        }
        CHECK.due("left of no without", x.left(0), NONE);
        x.run(0);
        CHECK.due("after a run", x.without(0, 0), 1);
    }

    private static void noneIfThereIsNoSuchUser() {
        FeatureUnions x = asking();
        x.run(0);
        for (int user : Edges.outside(2)) {
            CHECK.due("user " + user, x.without(user, 0), NONE);
        }
        FeatureUnions full = Edges.full();
        full.run(0);
        for (int user : Edges.outside(40)) {
            CHECK.due("of a full object, user " + user, full.without(user, 1), NONE);
        }
    }

    private static void noneIfTheUserDidNotAsk() {
        FeatureUnions x = asking();
        x.run(0);
        for (int name = 1; name < 31; name++) {
            CHECK.due("name " + name, x.without(0, name), NONE);
        }
        for (int name : Edges.outside(32)) {
            CHECK.due("name " + name, x.without(0, name), NONE);
        }
        CHECK.due("what another user asked for", x.without(1, 0), NONE);
        CHECK.due("name 0", x.without(0, 0), 1);
        CHECK.due("name 31", x.without(0, 31), 1);
    }

    private static void noneIfSomethingHasComeSince() {
        for (int thing = 0; thing < 6; thing++) {
            FeatureUnions x = asking();
            x.run(0);
            CHECK.due("before thing " + thing, x.without(0, 0), 1);
            CHECK.due("thing " + thing, tell(x, thing), true);
            CHECK.due("after thing " + thing, x.without(0, 0), NONE);
            x.run(8);
            CHECK.due("after thing " + thing + " and a refused run", x.without(0, 0), NONE);
            x.run(0);
            CHECK.due("after thing " + thing + " and a run", x.without(0, 0), 1);
        }
    }

    private static boolean tell(FeatureUnions x, int thing) {
        return switch (thing) {
            case 0 -> x.pack(true) == 2;
            case 1 -> x.feature(0, 0, false, 0) == 3;
            case 2 -> x.root(1, false);
            case 3 -> x.user(1, 0, false, false, true, 0) == 2;
            case 4 -> x.asks(1, 5) == 1;
            default -> x.turn(2, 0, 0, 0) == 0;
        };
    }

    private static void anAskingThatCameSince() {
        FeatureUnions x = asking();
        x.run(0);
        x.asks(0, 5);
        CHECK.due("the asking that came since", x.without(0, 5), NONE);
        CHECK.due("an older one", x.without(0, 0), NONE);
        x.run(0);
        CHECK.due("after a run", x.without(0, 5), 1);
        CHECK.due("what leaves", x.left(0), 4);
    }

    private static void aRunAfterItMakesItGood() {
        FeatureUnions x = asking();
        for (int i = 0; i < 8; i++) {
            x.run(i);
            CHECK.due("run " + i, x.without(0, 31), 1);
            if (i < 7) {
                x.pack(false);
            }
            CHECK.due("something since", x.without(0, 31), i < 7 ? NONE : 1);
        }
    }

    private static void zeroIfNothingLeaves() {
        FeatureUnions x = Edges.packs(1);
        x.root(0, true);
        x.feature(0, 0, true, 0);
        x.user(0, 0, false, false, false, ALL);
        x.asks(0, 0);
        x.run(0);
        CHECK.due("a default that was asked for too", x.without(0, 0), 0);
        CHECK.due("nothing left", x.left(0), NONE);
    }

    private static void zeroIfTheFeatureWasNotOn() {
        FeatureUnions x = Edges.packs(2);
        x.root(0, true);
        x.feature(1, 0, true, 0);
        x.user(0, 1, false, false, true, ALL);
        x.asks(0, 0);
        x.user(0, 1, false, false, false, 0);
        x.asks(1, 0);
        x.run(0);
        CHECK.due("an optional user that isn't LIVE", x.without(0, 0), 0);
        CHECK.due("a user that is for no platform", x.without(1, 0), 0);
        CHECK.due("nothing left", x.left(0), NONE);
    }

    /** The asked feature brings users, the last one too, and a pack: these leave, but are no features. */
    private static void onlyFeaturesAreCounted() {
        FeatureUnions x = Edges.packs(10);
        x.root(0, false);
        x.feature(1, 0, false, 0);
        x.user(0, 1, false, false, false, ALL);
        for (int user = 1; user < 40; user++) {
            x.user(1, 9, false, user == 39, true, ALL);
        }
        x.asks(0, 0);
        x.turn(0, 1, 1, 0);
        x.turn(0, 1, 39, 0);
        CHECK.due("run", x.run(0), 5);
        CHECK.due("the last user is LIVE", x.live(39, 0), 4);
        CHECK.due("without", x.without(0, 0), 1);
        CHECK.due("left 0", x.left(0), 0);
        CHECK.due("left 1", x.left(1), NONE);
    }

    private static void bothSidesAreCountedTogether() {
        for (int apart = 0; apart < 2; apart++) {
            FeatureUnions x = new FeatureUnions();
            x.pack(apart == 1);
            x.root(0, false);
            x.feature(0, 0, false, 0);
            x.user(0, 0, false, true, false, ALL);
            x.asks(0, 0);
            x.run(0);
            CHECK.due("both sides", x.without(0, 0), 2 - apart);
            CHECK.due("the first", x.left(0), apart);
            CHECK.due("the second", x.left(1), apart == 1 ? NONE : 1);
            CHECK.due("no third", x.left(2), NONE);
        }
    }

    /** Features that turn each other on, and sides that bring each other, hold nothing by themselves. */
    private static void circlesLeaveTogether() {
        FeatureUnions x = Edges.packs(2);
        x.root(0, false);
        x.feature(1, 0, false, 0);
        x.feature(1, 1, false, 0);
        x.feature(1, 2, false, 0);
        x.user(0, 1, false, false, false, ALL);
        x.user(0, 1, false, true, false, ALL);
        x.user(1, 1, false, false, false, ALL);
        x.asks(0, 1);
        x.turn(0, 0, 0, 1);
        x.turn(1, 0, 0, 2);
        x.turn(2, 0, 0, 0);
        x.turn(1, 2, 2, 1);
        x.run(0);
        CHECK.due("all of the circle", x.without(0, 1), 6);
        for (int i = 0; i < 6; i++) {
            CHECK.due("left " + i, x.left(i), i);
        }
        CHECK.due("no more", x.left(6), NONE);
    }

    private static void theOtherAskersKeepIt() {
        FeatureUnions x = asking();
        x.asks(1, 0);
        x.run(0);
        CHECK.due("asked for by two, the first", x.without(0, 0), 0);
        CHECK.due("asked for by two, the second", x.without(1, 0), 0);
        CHECK.due("asked for by one", x.without(0, 31), 1);
    }

    private static void weakTurnsLeaveWithTheirUser() {
        FeatureUnions x = Edges.packs(2);
        x.root(0, true);
        x.feature(0, 0, true, 0);
        x.feature(0, 1, false, 0);
        x.feature(1, 0, false, 0);
        x.user(0, 0, false, false, false, ALL);
        x.user(0, 1, false, false, true, ALL);
        x.asks(0, 1);
        x.turn(1, 1, 1, 0);
        x.turn(0, 3, 1, 0);
        x.run(0);
        CHECK.due("the asked one and the weakly turned one", x.without(0, 1), 2);
        CHECK.due("the asked one", x.left(0), 2);
        CHECK.due("the weakly turned one", x.left(1), 4);
    }

    private static void onThatRunsPlatform() {
        FeatureUnions x = Edges.packs(2);
        x.root(0, false);
        x.feature(1, 0, false, 0);
        x.user(0, 1, false, false, false, 1);
        x.user(0, 1, false, false, false, 1 | 2);
        x.asks(0, 0);
        x.asks(1, 0);
        x.run(0);
        CHECK.due("both askings count on 0", x.without(1, 0), 0);
        x.run(1);
        CHECK.due("one asking counts on 1", x.without(1, 0), 1);
        CHECK.due("the other doesn't", x.without(0, 0), 0);
        x.run(8);
        CHECK.due("still of the run on 1", x.without(1, 0), 1);
        x.run(2);
        CHECK.due("none counts on 2", x.without(1, 0), 0);
    }

    private static void withoutChangesNothing() {
        FeatureUnions x = asking();
        x.run(0);
        int[] before = Edges.stages(x, 2, 2, 3);
        x.without(0, 0);
        x.without(0, 31);
        x.without(0, 5);
        CHECK.due("stages after without", Edges.same(before, Edges.stages(x, 2, 2, 3)), true);
        CHECK.due("reasons after without", x.reasons(0, 0), 1);
        CHECK.due("the asking stands", x.asks(0, 0), -3);
        x.run(0);
        CHECK.due("stages after a run", Edges.same(before, Edges.stages(x, 2, 2, 3)), true);
    }

    private static void theLastUserAndTheEdgesOfNames() {
        FeatureUnions x = Edges.packs(1);
        x.root(0, false);
        x.feature(0, 0, false, 0);
        x.feature(0, 31, false, 0);
        for (int user = 0; user < 40; user++) {
            x.user(0, 0, false, false, false, ALL);
        }
        x.asks(39, 0);
        x.asks(39, 31);
        x.run(7);
        CHECK.due("the last user, name 31", x.without(39, 31), 1);
        CHECK.due("what leaves", x.left(0), 2);
        CHECK.due("the last user, name 0", x.without(39, 0), 1);
        CHECK.due("what leaves", x.left(0), 0);
        CHECK.due("one user too far", x.without(40, 0), NONE);
    }

    private static void promise16() {
        noneBeforeAWithout();
        outsideOfWhatLeft();
        aWithoutThatWasNoneKeepsIt();
        aWithoutOfZeroClearsIt();
        theLaterAndShorterCounts();
        inTheOrderOfTheNumbers();
    }

    private static void noneBeforeAWithout() {
        FeatureUnions x = asking();
        for (int i : Edges.outside(0)) {
            CHECK.due("before a run, left " + i, x.left(i), NONE);
        }
        x.run(0);
        for (int i : Edges.outside(0)) {
            CHECK.due("before a without, left " + i, x.left(i), NONE);
        }
        x.without(0, 5);
        CHECK.due("after a without that was NONE", x.left(0), NONE);
    }

    private static void outsideOfWhatLeft() {
        FeatureUnions x = asking();
        x.run(0);
        x.without(0, 31);
        for (int i : Edges.outside(1)) {
            CHECK.due("left " + i, x.left(i), NONE);
        }
        CHECK.due("left 0", x.left(0), 2);
    }

    private static void aWithoutThatWasNoneKeepsIt() {
        FeatureUnions x = asking();
        x.run(0);
        x.without(0, 31);
        CHECK.due("no such user", x.without(2, 0), NONE);
        CHECK.due("left 0 after it", x.left(0), 2);
        CHECK.due("no such name", x.without(0, 32), NONE);
        CHECK.due("left 0 after it", x.left(0), 2);
        CHECK.due("not asked", x.without(0, 5), NONE);
        CHECK.due("left 0 after it", x.left(0), 2);
        x.pack(false);
        CHECK.due("something since", x.without(0, 0), NONE);
        CHECK.due("left 0 after it", x.left(0), 2);
        x.run(0);
        CHECK.due("left 0 after a run", x.left(0), 2);
        CHECK.due("left 1 after a run", x.left(1), NONE);
    }

    private static void aWithoutOfZeroClearsIt() {
        FeatureUnions x = asking();
        x.asks(1, 0);
        x.run(0);
        CHECK.due("one leaves", x.without(0, 31), 1);
        CHECK.due("none leaves", x.without(0, 0), 0);
        CHECK.due("left 0", x.left(0), NONE);
    }

    private static void theLaterAndShorterCounts() {
        FeatureUnions x = asking();
        x.turn(0, 0, 0, 5);
        x.run(0);
        CHECK.due("two leave", x.without(0, 0), 2);
        CHECK.due("left 0", x.left(0), 0);
        CHECK.due("left 1", x.left(1), 4);
        CHECK.due("one leaves", x.without(0, 31), 1);
        CHECK.due("left 0", x.left(0), 2);
        CHECK.due("left 1", x.left(1), NONE);
    }

    /** The feature with the greater number is ON first, and on build before run. */
    private static void inTheOrderOfTheNumbers() {
        FeatureUnions x = Edges.packs(1);
        x.root(0, false);
        x.feature(0, 9, false, 0);
        x.feature(0, 8, false, 0);
        x.user(0, 0, false, true, false, ALL);
        x.asks(0, 8);
        x.turn(1, 0, 0, 9);
        x.run(0);
        CHECK.due("the greater number is ON first", x.on(1, 1) < x.on(0, 0), true);
        CHECK.due("all leave", x.without(0, 8), 4);
        for (int i = 0; i < 4; i++) {
            CHECK.due("left " + i, x.left(i), i);
        }
    }
}
