/** Promise 14: clashes, their order, and what they are as of. */
public final class ClashTest {
    private static final int NONE = FeatureUnions.NONE;
    private static final Check CHECK = new Check("ClashTest");

    public static void main(String[] args) {
        clashesInTheirOrder();
        groupsOfOnePackAlone();
        clashesStayAsTheyWere();
        asManyAsThereCanBe();
        CHECK.finish();
    }

    /** The due clashes: first, second, side in turns. */
    private static void dueClashes(FeatureUnions x, int... want) {
        for (int at = 0; at < want.length; at++) {
            CHECK.due("clash " + at / 3 + " what " + at % 3, x.clash(at / 3, at % 3), want[at]);
        }
        for (int what = 0; what < 3; what++) {
            CHECK.due("past the last clash, what " + what, x.clash(want.length / 3, what), NONE);
        }
    }

    private static void clashesInTheirOrder() {
        FeatureUnions x = new FeatureUnions();
        x.pack(true);
        x.feature(0, 9, true, 7);
        x.feature(0, 8, false, 7);
        x.feature(0, 7, true, 7);
        x.feature(0, 6, true, 7);
        x.root(0, true);
        x.user(0, 0, false, true, false, 255);
        x.asks(0, 9);
        x.asks(0, 8);
        x.asks(0, 6);
        x.run(0);
        dueClashes(x, 0, 1, 1, 0, 2, 0, 0, 3, 0, 0, 3, 1, 1, 3, 1, 2, 3, 0);
        for (int odd : new int[] {-2, -1, 3, 4, Integer.MIN_VALUE, Integer.MAX_VALUE}) {
            CHECK.due("clash for what " + odd, x.clash(0, odd), NONE);
        }
        for (int odd : new int[] {-2, -1, 6, 7, Integer.MIN_VALUE, Integer.MAX_VALUE}) {
            CHECK.due("clash " + odd, x.clash(odd, 0), NONE);
        }
    }

    private static void groupsOfOnePackAlone() {
        FeatureUnions x = new FeatureUnions();
        x.pack(false);
        x.pack(false);
        x.feature(0, 0, true, 0);
        x.feature(0, 1, true, 0);
        x.feature(0, 2, true, 1);
        x.feature(1, 0, true, 1);
        x.feature(0, 3, true, 2);
        x.feature(1, 1, true, 2);
        x.feature(1, 2, false, 2);
        x.root(0, true);
        x.root(1, true);
        x.run(0);
        dueClashes(x);
    }

    private static void clashesStayAsTheyWere() {
        FeatureUnions x = new FeatureUnions();
        x.pack(false);
        x.feature(0, 0, true, 3);
        x.feature(0, 1, true, 3);
        x.root(0, true);
        dueClashes(x);
        x.run(0);
        dueClashes(x, 0, 1, 0);
        x.feature(0, 2, true, 3);
        x.run(8);
        dueClashes(x, 0, 1, 0);
        x.run(0);
        dueClashes(x, 0, 1, 0, 0, 2, 0, 1, 2, 0);
    }

    private static void asManyAsThereCanBe() {
        FeatureUnions x = new FeatureUnions();
        for (int pack = 0; pack < 6; pack++) {
            x.pack(false);
            x.root(pack, true);
            x.user(pack, pack, true, true, false, 255);
        }
        for (int i = 0; i < 60; i++) {
            x.feature(i % 6, i / 6, true, 1);
        }
        x.run(0);
        CHECK.due("the last clash's first", x.clash(539, 0), 53);
        CHECK.due("the last clash's second", x.clash(539, 1), 59);
        CHECK.due("the last clash's side", x.clash(539, 2), 1);
        CHECK.due("no clash more", x.clash(540, 0), NONE);
    }
}
