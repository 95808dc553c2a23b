/**
 * The edges that the Terms and promises 12 to 14 name, one function for each. No object is used for
 * more than 512 calls, as the document promises nothing about later ones.
 */
public final class ReasonEdgesTest {
    private static final int NONE = Edges.NONE;
    private static final int ALL = Edges.ALL;
    private static final Check CHECK = new Check("ReasonEdgesTest");

    public static void main(String[] args) {
        promises12And13();
        promise14();
        CHECK.finish();
    }

    private static void promises12And13() {
        noReasonsBeforeARun();
        noReasonsOfWhatThereIsNot();
        noReasonsOfWhatIsNotOn();
        noReasonsOfWhatHasComeSince();
        whatComesSinceIsNoReason();
        aRefusedRunKeepsTheReasons();
        reasonsOutsideTheirNumber();
        whatsAreZeroAndOne();
        theMostReasons();
        theGreatestNumbersOfEachKind();
        aFeatureMayBeItsOwnReason();
        turnsOfWhatIsNotOnAreNoReasons();
        turnsOfWhatIsOnElsewhereAreNoReasons();
    }

    /** Pack 0 is a root with defaults, and feature 0 its default. */
    private static FeatureUnions oneDefault() {
        FeatureUnions x = Edges.packs(1);
        x.root(0, true);
        x.feature(0, 0, true, 0);
        return x;
    }

    private static void dueReason(FeatureUnions x, int feature, int side, int i, int kind, int number) {
        String of = "reason " + i + " of feature " + feature + " on side " + side;
        CHECK.due("the kind of " + of, x.reason(feature, side, i, 0), kind);
        CHECK.due("the number of " + of, x.reason(feature, side, i, 1), number);
    }

    private static void noReasonsBeforeARun() {
        FeatureUnions x = oneDefault();
        CHECK.due("reasons before a run", x.reasons(0, 0), 0);
        dueReason(x, 0, 0, 0, NONE, NONE);
        x.run(-1);
        CHECK.due("reasons after a refused run", x.reasons(0, 0), 0);
        dueReason(x, 0, 0, 0, NONE, NONE);
        x.run(0);
        CHECK.due("reasons after a run", x.reasons(0, 0), 1);
        dueReason(x, 0, 0, 0, 0, 0);
    }

    private static void noReasonsOfWhatThereIsNot() {
        FeatureUnions x = Edges.full();
        x.run(0);
        for (int feature : Edges.outside(60)) {
            CHECK.due("reasons of feature " + feature, x.reasons(feature, 0), 0);
            dueReason(x, feature, 1, 0, NONE, NONE);
        }
        for (int side : Edges.outside(2)) {
            CHECK.due("reasons on side " + side, x.reasons(31, side), 0);
            dueReason(x, 31, side, 0, NONE, NONE);
        }
        CHECK.due("reasons of what there is", x.reasons(31, 0) * x.reasons(31, 1) > 0, true);
    }

    private static void noReasonsOfWhatIsNotOn() {
        FeatureUnions x = oneDefault();
        x.feature(0, 1, false, 0);
        x.run(0);
        CHECK.due("on run alone: reasons on run", x.reasons(0, 0), 1);
        CHECK.due("on run alone: reasons on build", x.reasons(0, 1), 0);
        dueReason(x, 0, 1, 0, NONE, NONE);
        CHECK.due("nowhere: reasons", x.reasons(1, 0) + x.reasons(1, 1), 0);
        dueReason(x, 1, 0, 0, NONE, NONE);
    }

    private static void noReasonsOfWhatHasComeSince() {
        FeatureUnions x = oneDefault();
        x.run(0);
        CHECK.due("a feature since", x.feature(0, 1, true, 0), 1);
        CHECK.due("its reasons", x.reasons(1, 0), 0);
        dueReason(x, 1, 0, 0, NONE, NONE);
        x.run(0);
        CHECK.due("its reasons after a run", x.reasons(1, 0), 1);
        dueReason(x, 1, 0, 0, 0, 0);
    }

    /** Feature 0 of pack 0 is ON by an asking alone; each thing would be a reason more. */
    private static void whatComesSinceIsNoReason() {
        int[] kinds = {0, 1, 2, 3, 4, 5, 6};
        int[] numbers = {0, 2, 2, 0, 0, 0, 1};
        for (int thing = 0; thing < 7; thing++) {
            FeatureUnions x = Edges.packs(2);
            x.feature(0, 0, true, 0);
            x.feature(0, 1, false, 0);
            x.feature(1, 0, true, 0);
            x.root(1, true);
            x.user(1, 0, false, false, false, ALL);
            x.asks(0, 0);
            x.asks(0, 1);
            x.user(1, 0, thing == 2, false, thing == 2, ALL);
            x.run(0);
            CHECK.due("reasons before thing " + thing, x.reasons(0, 0), 1);
            tellAReason(x, thing);
            CHECK.due("reasons after thing " + thing, x.reasons(0, 0), 1);
            dueReason(x, 0, 0, 0, 1, 0);
            dueReason(x, 0, 0, 1, NONE, NONE);
            x.run(0);
            CHECK.due("reasons after thing " + thing + " and a run", x.reasons(0, 0), 2);
            dueReason(x, 0, 0, thing == 0 ? 0 : 1, kinds[thing], numbers[thing]);
        }
    }

    /** What gives feature 0 a reason of this kind on run. */
    private static void tellAReason(FeatureUnions x, int kind) {
        switch (kind) {
            case 0 -> x.root(0, true);
            case 1 -> x.asks(1, 0);
            case 2 -> x.turn(2, 1, 1, 0);
            case 3 -> x.turn(1, 0, 0, 0);
            case 4 -> x.turn(2, 2, 1, 0);
            case 5 -> x.turn(2, 3, 1, 0);
            default -> x.user(1, 0, false, true, false, ALL);
        }
    }

    private static void aRefusedRunKeepsTheReasons() {
        FeatureUnions x = oneDefault();
        x.run(0);
        x.user(0, 0, true, false, false, ALL);
        for (int platform : Edges.outside(8)) {
            x.run(platform);
            CHECK.due("reasons after run " + platform, x.reasons(0, 0), 1);
            dueReason(x, 0, 0, 0, 0, 0);
        }
        x.run(7);
        CHECK.due("reasons after run 7", x.reasons(0, 0), 2);
    }

    private static void reasonsOutsideTheirNumber() {
        FeatureUnions x = Edges.full();
        x.run(0);
        int count = x.reasons(31, 0);
        CHECK.due("more than one reason", count > 1, true);
        for (int i : Edges.outside(count)) {
            dueReason(x, 31, 0, i, NONE, NONE);
        }
        for (int i = 0; i < count; i++) {
            CHECK.due("reason " + i + " has a kind", x.reason(31, 0, i, 0) >= 0, true);
            CHECK.due("reason " + i + " has a number", x.reason(31, 0, i, 1) >= 0, true);
        }
    }

    private static void whatsAreZeroAndOne() {
        FeatureUnions x = oneDefault();
        x.run(0);
        for (int what : Edges.outside(2)) {
            CHECK.due("what " + what, x.reason(0, 0, 0, what), NONE);
            CHECK.due("what " + what + " past the last", x.reason(0, 0, 1, what), NONE);
        }
        dueReason(x, 0, 0, 0, 0, 0);
    }

    /** All 40 users ask for feature 0, all 60 rows turn it on, for building and from both sides. */
    private static void theMostReasons() {
        FeatureUnions x = oneDefault();
        x.feature(0, 1, true, 0);
        for (int user = 0; user < 40; user++) {
            x.user(0, 0, true, true, false, ALL);
            x.asks(user, 0);
        }
        for (int row = 0; row < 60; row++) {
            x.turn(1, row < 30 ? 2 : 3, 39, 0);
        }
        x.run(0);
        CHECK.due("reasons", x.reasons(0, 1), 281);
        dueReason(x, 0, 1, 0, 1, 0);
        dueReason(x, 0, 1, 79, 1, 79);
        dueReason(x, 0, 1, 80, 2, 0);
        dueReason(x, 0, 1, 159, 2, 79);
        dueReason(x, 0, 1, 160, 4, 0);
        dueReason(x, 0, 1, 219, 4, 59);
        dueReason(x, 0, 1, 220, 5, 60);
        dueReason(x, 0, 1, 279, 5, 119);
        dueReason(x, 0, 1, 280, 6, 0);
        dueReason(x, 0, 1, 281, NONE, NONE);
    }

    /** Pack 9 with the last six features; users 38 and 39 and rows 57, 58 and 59 are of it. */
    private static void theGreatestNumbersOfEachKind() {
        FeatureUnions x = Edges.packs(10);
        for (int feature = 0; feature < 60; feature++) {
            x.feature(feature / 6, feature % 6, feature >= 58, 0);
        }
        for (int user = 0; user < 40; user++) {
            x.user(user < 38 ? 0 : 9, user < 38 ? 0 : 9, true, user == 39, false, ALL);
        }
        x.asks(39, 5);
        for (int row = 0; row < 57; row++) {
            x.turn(0, 0, 0, 1);
        }
        x.turn(58, 2, 39, 5);
        x.turn(58, 3, 39, 5);
        CHECK.due("the last row", x.turn(58, 0, 0, 5), 59);
        x.root(9, true);
        x.run(0);
        CHECK.due("reasons on run", x.reasons(59, 0), 4);
        dueReason(x, 59, 0, 0, 0, 9);
        dueReason(x, 59, 0, 1, 2, 76);
        dueReason(x, 59, 0, 2, 3, 118);
        dueReason(x, 59, 0, 3, 6, 119);
        CHECK.due("reasons on build", x.reasons(59, 1), 11);
        int[] kinds = {1, 1, 2, 2, 2, 3, 4, 4, 5, 5, 6};
        int[] numbers = {78, 79, 77, 78, 79, 119, 114, 115, 116, 117, 118};
        for (int i = 0; i < 11; i++) {
            dueReason(x, 59, 1, i, kinds[i], numbers[i]);
        }
    }

    private static void aFeatureMayBeItsOwnReason() {
        FeatureUnions x = oneDefault();
        x.user(0, 0, false, false, false, ALL);
        x.turn(0, 2, 0, 0);
        x.turn(0, 3, 0, 0);
        x.run(0);
        CHECK.due("its stage", x.on(0, 0), 2);
        CHECK.due("its reasons", x.reasons(0, 0), 3);
        dueReason(x, 0, 0, 0, 0, 0);
        dueReason(x, 0, 0, 1, 4, 0);
        dueReason(x, 0, 0, 2, 5, 2);
    }

    /** Feature 1, which isn't ON, has a turn of each kind on feature 0, which is, and its user is LIVE. */
    private static void turnsOfWhatIsNotOnAreNoReasons() {
        FeatureUnions x = oneDefault();
        x.feature(0, 1, false, 0);
        x.user(0, 0, false, false, false, ALL);
        x.turn(1, 0, 0, 0);
        x.turn(1, 2, 0, 0);
        x.turn(1, 3, 0, 0);
        x.run(0);
        CHECK.due("feature 1 isn't ON", x.on(1, 0), 0);
        CHECK.due("the user is LIVE", x.live(0, 0), 2);
        CHECK.due("reasons of feature 0", x.reasons(0, 0), 1);
        dueReason(x, 0, 0, 0, 0, 0);
        dueReason(x, 0, 0, 1, NONE, NONE);
        x.asks(0, 1);
        x.run(0);
        CHECK.due("reasons of feature 0 now", x.reasons(0, 0), 4);
        dueReason(x, 0, 0, 1, 3, 0);
        dueReason(x, 0, 0, 2, 4, 2);
        dueReason(x, 0, 0, 3, 5, 4);
    }

    /** The same with feature 1 ON on run alone, seen on build, where feature 0 is asked for. */
    private static void turnsOfWhatIsOnElsewhereAreNoReasons() {
        FeatureUnions x = new FeatureUnions();
        x.pack(true);
        x.root(0, true);
        x.feature(0, 0, false, 0);
        x.feature(0, 1, true, 0);
        x.user(0, 0, false, false, false, ALL);
        x.user(0, 0, false, true, false, ALL);
        x.asks(1, 0);
        x.turn(1, 0, 0, 0);
        x.turn(1, 2, 0, 0);
        x.turn(1, 3, 0, 0);
        x.run(0);
        CHECK.due("feature 1 is ON on run alone", x.on(1, 0) > 0 && x.on(1, 1) == 0, true);
        CHECK.due("the user is LIVE on both sides", x.live(0, 0) * x.live(0, 1) > 0, true);
        CHECK.due("reasons of feature 0 on run", x.reasons(0, 0), 3);
        dueReason(x, 0, 0, 0, 3, 0);
        dueReason(x, 0, 0, 1, 4, 2);
        dueReason(x, 0, 0, 2, 5, 4);
        CHECK.due("reasons of feature 0 on build", x.reasons(0, 1), 2);
        dueReason(x, 0, 1, 0, 1, 2);
        dueReason(x, 0, 1, 1, 1, 3);
    }

    private static void promise14() {
        noClashesBeforeARun();
        clashesOutsideTheirNumber();
        whatsOfClashesAreZeroToTwo();
        groupZeroIsNone();
        groupsOneToSevenClash();
        otherGroupsAndOtherPacksDoNotClash();
        bothMustBeOnOnOneSide();
        theLesserNumberIsFirst();
        clashesOfTheLatestRun();
    }

    private static void dueClash(FeatureUnions x, int i, int first, int second, int side) {
        CHECK.due("clash " + i + ", the first", x.clash(i, 0), first);
        CHECK.due("clash " + i + ", the second", x.clash(i, 1), second);
        CHECK.due("clash " + i + ", the side", x.clash(i, 2), side);
    }

    private static void dueNoClash(FeatureUnions x, int i) {
        dueClash(x, i, NONE, NONE, NONE);
    }

    /** Features of pack 0, a root with defaults, all BY DEFAULT, with these groups. */
    private static FeatureUnions grouped(int... groups) {
        FeatureUnions x = Edges.packs(1);
        x.root(0, true);
        for (int i = 0; i < groups.length; i++) {
            x.feature(0, 31 - i, true, groups[i]);
        }
        return x;
    }

    private static void noClashesBeforeARun() {
        FeatureUnions x = grouped(1, 1);
        dueNoClash(x, 0);
        x.run(8);
        dueNoClash(x, 0);
        x.run(0);
        dueClash(x, 0, 0, 1, 0);
    }

    private static void clashesOutsideTheirNumber() {
        FeatureUnions none = grouped(1, 2, 3);
        none.run(0);
        for (int i : Edges.outside(0)) {
            dueNoClash(none, i);
        }
        FeatureUnions x = grouped(1, 1, 1);
        x.run(0);
        for (int i : Edges.outside(3)) {
            dueNoClash(x, i);
        }
        dueClash(x, 0, 0, 1, 0);
        dueClash(x, 1, 0, 2, 0);
        dueClash(x, 2, 1, 2, 0);
    }

    private static void whatsOfClashesAreZeroToTwo() {
        FeatureUnions x = grouped(7, 7);
        x.run(0);
        for (int what : Edges.outside(3)) {
            CHECK.due("what " + what, x.clash(0, what), NONE);
            CHECK.due("what " + what + " past the last", x.clash(1, what), NONE);
        }
        dueClash(x, 0, 0, 1, 0);
    }

    private static void groupZeroIsNone() {
        FeatureUnions x = grouped(0, 0, 1, 0, 1);
        x.run(0);
        dueClash(x, 0, 2, 4, 0);
        dueNoClash(x, 1);
    }

    private static void groupsOneToSevenClash() {
        for (int group = 1; group < 8; group++) {
            FeatureUnions x = grouped(group, group);
            x.run(0);
            dueClash(x, 0, 0, 1, 0);
            dueNoClash(x, 1);
        }
    }

    private static void otherGroupsAndOtherPacksDoNotClash() {
        FeatureUnions x = grouped(1, 2, 3, 4, 5, 6, 7);
        x.pack(false);
        x.root(1, true);
        for (int group = 1; group < 8; group++) {
            x.feature(1, group, true, group);
        }
        x.run(0);
        CHECK.due("all are ON", x.on(6, 0) * x.on(13, 0), 4);
        dueNoClash(x, 0);
    }

    private static void bothMustBeOnOnOneSide() {
        FeatureUnions x = new FeatureUnions();
        x.pack(true);
        x.root(0, true);
        x.feature(0, 0, true, 1);
        x.feature(0, 1, false, 1);
        x.feature(0, 2, false, 1);
        x.user(0, 0, false, true, false, ALL);
        x.asks(0, 1);
        x.run(0);
        CHECK.due("one on run alone", x.on(0, 0) > 0 && x.on(0, 1) == 0, true);
        CHECK.due("one on build alone", x.on(1, 0) == 0 && x.on(1, 1) > 0, true);
        dueNoClash(x, 0);
        x.asks(0, 2);
        x.run(0);
        dueClash(x, 0, 1, 2, 1);
        dueNoClash(x, 1);
    }

    private static void theLesserNumberIsFirst() {
        FeatureUnions x = grouped(3, 4, 4, 3);
        x.user(0, 0, true, true, false, ALL);
        x.run(0);
        dueClash(x, 0, 0, 3, 0);
        dueClash(x, 1, 0, 3, 1);
        dueClash(x, 2, 1, 2, 0);
        dueClash(x, 3, 1, 2, 1);
        dueNoClash(x, 4);
    }

    private static void clashesOfTheLatestRun() {
        FeatureUnions x = grouped(1);
        x.user(0, 0, false, false, false, 1 << 5);
        x.feature(0, 0, false, 1);
        x.asks(0, 0);
        x.run(5);
        dueClash(x, 0, 0, 1, 0);
        x.feature(0, 1, true, 1);
        x.run(-1);
        dueClash(x, 0, 0, 1, 0);
        dueNoClash(x, 1);
        x.run(4);
        dueClash(x, 0, 0, 2, 0);
        dueNoClash(x, 1);
    }
}
