import java.util.Arrays;
import java.util.stream.IntStream;

/** What the tests of the document's edges share. */
final class Edges {
    static final int NONE = FeatureUnions.NONE;
    static final int ALL = 255;

    private Edges() { }

    /**
     * Numbers outside 0 .. bound - 1: just outside, far outside, and those that a shift, a doubling
     * or a cast would wrap around into what there is.
     */
    static int[] outside(int bound) {
        IntStream odd = IntStream.of(-1, -2, -31, -32, -bound, bound, bound + 1, 2 * bound, 31, 32, 33, 63, 64,
                256, 1 << 16, 1 << 30, 1 << 30 | 1, Integer.MIN_VALUE, Integer.MIN_VALUE + 1,
                Integer.MAX_VALUE - 1, Integer.MAX_VALUE);
        return odd.filter(n -> n < 0 || n >= bound).distinct().toArray();
    }

    static FeatureUnions packs(int count) {
        FeatureUnions x = new FeatureUnions();
        for (int i = 0; i < count; i++) {
            x.pack(false);
        }
        return x;
    }

    /**
     * Nothing more goes into it: 10 packs, all of them roots; 60 features, of which pack p has
     * 6 p .. 6 p + 5 with the names 0 .. 5, the first BY DEFAULT, the first two in group 1; 40 users,
     * of which pack p has 4 p .. 4 p + 3; 60 turns, one of each feature. 191 calls.
     */
    static FeatureUnions full() {
        FeatureUnions x = packs(10);
        for (int pack = 0; pack < 10; pack++) {
            x.root(pack, pack % 2 == 0);
            for (int name = 0; name < 6; name++) {
                x.feature(pack, name, name == 0, name < 2 ? 1 : 0);
            }
        }
        for (int user = 0; user < 40; user++) {
            int pack = user / 4;
            x.user(pack, (pack + user % 4) % 10, user % 3 == 0, user % 4 == 1, user % 4 > 1, ALL);
            if (user % 4 == 0) {
                x.asks(user, 1);
            }
        }
        x.asks(1, 2);
        for (int row = 0; row < 60; row++) {
            int kind = row % 4;
            x.turn(row, kind, row / 6 * 4 + (kind + 1) % 4, (row + 1) % 6);
        }
        return x;
    }

    /** Every stage on both sides, by the latest run. */
    static int[] stages(FeatureUnions x, int packs, int users, int features) {
        int[] all = new int[2 * (packs + users + features)];
        int at = 0;
        for (int side = 0; side < 2; side++) {
            for (int pack = 0; pack < packs; pack++) {
                all[at++] = x.there(pack, side);
            }
            for (int user = 0; user < users; user++) {
                all[at++] = x.live(user, side);
            }
            for (int feature = 0; feature < features; feature++) {
                all[at++] = x.on(feature, side);
            }
        }
        return all;
    }

    static boolean same(int[] some, int[] others) {
        return Arrays.equals(some, others);
    }
}
