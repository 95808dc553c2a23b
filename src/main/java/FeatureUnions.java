/**
 * Features of packages, closed on a platform to the least that keeps all rules.
 * The answers of a run are kept apart from what is told later: see Snapshot.
 */
public final class FeatureUnions {
    public static final int NONE = -1;

    private static final int MOST_PACKS = 10;
    private static final int MOST_FEATURES = 60;
    private static final int MOST_FEATURES_OF_A_PACK = 10;
    private static final int MOST_USERS = 40;
    private static final int MOST_TURNS = 60;
    private static final int NAMES = 32;
    private static final int GROUPS = 8;
    private static final int PLATFORMS = 8;

    private static final int SIDES = 2;
    private static final int RUN_SIDE = 0;
    private static final int BUILD_SIDE = 1;

    private static final int TURN_FEATURE = 0;
    private static final int TURN_USER = 1;
    private static final int TURN_BOTH = 2;
    private static final int TURN_WEAK = 3;
    private static final int TURN_KINDS = 4;

    private static final int BY_ROOT = 0;
    private static final int BY_ASKING = 1;
    private static final int BY_DEFAULTS = 2;
    private static final int BY_TURN = 3;
    private static final int BY_TURN_THROUGH_USER = 4;
    private static final int BY_WEAK_TURN = 5;
    private static final int BY_OTHER_SIDE = 6;
    private static final int REASON_KINDS = 7;
    // Above every reason's number, so that kind * REASON_NUMBERS + number orders reasons.
    private static final int REASON_NUMBERS = 128;
    private static final int REASON_CODES = REASON_KINDS * REASON_NUMBERS;

    // All items stand in one row: packages, then users, then features, two sides each.
    private static final int FIRST_USER_ITEM = SIDES * MOST_PACKS;
    private static final int FIRST_FEATURE_ITEM = FIRST_USER_ITEM + SIDES * MOST_USERS;
    private static final int ITEMS = FIRST_FEATURE_ITEM + SIDES * MOST_FEATURES;

    private final Packs packs;
    private final Features features;
    private final Users users;
    private final Turns turns;
    private final Snapshot snapshot;
    private final Closure latest;
    private final Closure trial;
    private final Reasons grounds;
    private final int[] leavers;
    private int leaverCount;
    // Whether there was a run and nothing has come since.
    private boolean current;

    public FeatureUnions() {
        packs = new Packs();
        features = new Features();
        users = new Users();
        turns = new Turns();
        snapshot = new Snapshot(packs, features, users, turns);
        latest = new Closure(snapshot);
        trial = new Closure(snapshot);
        grounds = new Reasons(snapshot, latest);
        leavers = new int[SIDES * MOST_FEATURES];
        leaverCount = 0;
        current = false;
    }

    public int pack(boolean apart) {
        if (packs.count >= MOST_PACKS) {
            return NONE;
        }
        current = false;
        return packs.add(apart);
    }

    public int feature(int pack, int name, boolean byDefault, int group) {
        if (!packs.has(pack) || !within(name, NAMES) || !within(group, GROUPS)) {
            return NONE;
        }
        if (features.find(pack, name) != NONE || features.countOf(pack) >= MOST_FEATURES_OF_A_PACK
                || features.count >= MOST_FEATURES) {
            return NONE;
        }
        current = false;
        return features.add(pack, name, byDefault, group);
    }

    public boolean root(int pack, boolean defaults) {
        if (!packs.has(pack) || bit(packs.roots, pack)) {
            return false;
        }
        current = false;
        packs.makeRoot(pack, defaults);
        return true;
    }

    public int user(int from, int to, boolean defaults, boolean build, boolean optional, int platforms) {
        if (!packs.has(from) || !packs.has(to) || users.count >= MOST_USERS) {
            return NONE;
        }
        current = false;
        return users.add(from, to, defaults, build, optional, platforms);
    }

    public int asks(int user, int name) {
        if (!users.has(user)) {
            return -1;
        }
        if (features.find(users.to[user], name) == NONE) {
            return -2;
        }
        if (bit(users.asked[user], name)) {
            return -3;
        }
        current = false;
        users.asked[user] |= 1 << name;
        return 1;
    }

    public int turn(int feature, int kind, int user, int name) {
        if (!features.has(feature) || !within(kind, TURN_KINDS) || turns.count >= MOST_TURNS) {
            return NONE;
        }
        int owner = features.pack[feature];
        int through = NONE;
        if (kind != TURN_FEATURE) {
            if (!users.has(user) || users.from[user] != owner) {
                return NONE;
            }
            if (kind == TURN_USER && !users.optional[user]) {
                return NONE;
            }
            through = user;
        }
        int target = NONE;
        if (kind != TURN_USER) {
            target = features.find(through == NONE ? owner : users.to[through], name);
            // Only KIND 0 wants ANOTHER feature: through a user a feature may reach itself elsewhere.
            if (target == NONE || kind == TURN_FEATURE && target == feature) {
                return NONE;
            }
        }
        current = false;
        return turns.add(feature, kind, through, target);
    }

    public int run(int platform) {
        if (!within(platform, PLATFORMS)) {
            return NONE;
        }
        snapshot.take(platform);
        latest.close();
        current = true;
        return latest.greatestStage();
    }

    public int there(int pack, int side) {
        return packs.has(pack) && within(side, SIDES) ? latest.thereStage(pack, side) : 0;
    }

    public int live(int user, int side) {
        return users.has(user) && within(side, SIDES) ? latest.liveStage(user, side) : 0;
    }

    public int on(int feature, int side) {
        return features.has(feature) && within(side, SIDES) ? latest.onStage(feature, side) : 0;
    }

    public int reasons(int feature, int side) {
        // What is ON has a reason and what isn't has none; so nothing newer than the run has one.
        return on(feature, side) == 0 ? 0 : grounds.countOf(feature, side);
    }

    public int reason(int feature, int side, int i, int what) {
        if (!within(what, 2) || on(feature, side) == 0) {
            return NONE;
        }
        int code = grounds.find(feature, side, i);
        if (code == NONE) {
            return NONE;
        }
        return what == 0 ? code / REASON_NUMBERS : code % REASON_NUMBERS;
    }

    public int clash(int i, int what) {
        if (i < 0 || !within(what, 3)) {
            return NONE;
        }
        int before = i;
        for (int first = 0; first < features.count; first++) {
            for (int second = first + 1; second < features.count; second++) {
                if (!features.exclude(first, second)) {
                    continue;
                }
                for (int side = 0; side < SIDES; side++) {
                    if (latest.onStage(first, side) == 0 || latest.onStage(second, side) == 0) {
                        continue;
                    }
                    if (before == 0) {
                        return what == 0 ? first : what == 1 ? second : side;
                    }
                    before--;
                }
            }
        }
        return NONE;
    }

    public int without(int user, int name) {
        if (!current || !users.has(user) || !within(name, NAMES) || !bit(snapshot.asked[user], name)) {
            return NONE;
        }
        int asked = snapshot.asked[user];
        snapshot.asked[user] = asked & ~(1 << name);
        trial.close();
        snapshot.asked[user] = asked;
        noteLeavers();
        return leaverCount;
    }

    public int left(int i) {
        return within(i, leaverCount) ? leavers[i] : NONE;
    }

    private void noteLeavers() {
        leaverCount = 0;
        for (int feature = 0; feature < features.count; feature++) {
            for (int side = 0; side < SIDES; side++) {
                if (latest.onStage(feature, side) != 0 && trial.onStage(feature, side) == 0) {
                    leavers[leaverCount] = SIDES * feature + side;
                    leaverCount++;
                }
            }
        }
    }

    private static boolean within(int number, int bound) {
        return number >= 0 && number < bound;
    }

    private static boolean bit(int bits, int number) {
        return (bits >> number & 1) == 1;
    }

    private static final class Packs {
        int count = 0;
        // Bits by the package's number.
        int roots = 0;
        int rootsWithDefaults = 0;
        final boolean[] apart = new boolean[MOST_PACKS];

        boolean has(int pack) {
            return within(pack, count);
        }

        int add(boolean isApart) {
            apart[count] = isApart;
            count++;
            return count - 1;
        }

        void makeRoot(int pack, boolean defaults) {
            roots |= 1 << pack;
            if (defaults) {
                rootsWithDefaults |= 1 << pack;
            }
        }
    }

    private static final class Features {
        int count = 0;
        final int[] pack = new int[MOST_FEATURES];
        final int[] name = new int[MOST_FEATURES];
        final int[] group = new int[MOST_FEATURES];
        final boolean[] byDefault = new boolean[MOST_FEATURES];

        boolean has(int feature) {
            return within(feature, count);
        }

        int add(int ofPack, int itsName, boolean isByDefault, int itsGroup) {
            pack[count] = ofPack;
            name[count] = itsName;
            group[count] = itsGroup;
            byDefault[count] = isByDefault;
            count++;
            return count - 1;
        }

        int find(int ofPack, int itsName) {
            for (int feature = 0; feature < count; feature++) {
                if (pack[feature] == ofPack && name[feature] == itsName) {
                    return feature;
                }
            }
            return NONE;
        }

        int countOf(int ofPack) {
            int found = 0;
            for (int feature = 0; feature < count; feature++) {
                if (pack[feature] == ofPack) {
                    found++;
                }
            }
            return found;
        }

        boolean exclude(int first, int second) {
            return group[first] != 0 && group[first] == group[second] && pack[first] == pack[second];
        }
    }

    private static final class Users {
        int count = 0;
        final int[] from = new int[MOST_USERS];
        final int[] to = new int[MOST_USERS];
        final int[] platforms = new int[MOST_USERS];
        // Bits by the NAME of the feature asked for: a name is enough, as a user needs one package.
        final int[] asked = new int[MOST_USERS];
        final boolean[] defaults = new boolean[MOST_USERS];
        final boolean[] build = new boolean[MOST_USERS];
        final boolean[] optional = new boolean[MOST_USERS];

        boolean has(int user) {
            return within(user, count);
        }

        int add(int of, int needs, boolean withDefaults, boolean forBuild, boolean isOptional, int onPlatforms) {
            from[count] = of;
            to[count] = needs;
            defaults[count] = withDefaults;
            build[count] = forBuild;
            optional[count] = isOptional;
            platforms[count] = onPlatforms;
            count++;
            return count - 1;
        }

        int farSide(int user, int side) {
            return build[user] ? BUILD_SIDE : side;
        }
    }

    private static final class Turns {
        int count = 0;
        final int[] feature = new int[MOST_TURNS];
        final int[] kind = new int[MOST_TURNS];
        // NONE for TURN_FEATURE.
        final int[] user = new int[MOST_TURNS];
        // NONE for TURN_USER.
        final int[] target = new int[MOST_TURNS];

        int add(int ofFeature, int itsKind, int through, int turnedOn) {
            feature[count] = ofFeature;
            kind[count] = itsKind;
            user[count] = through;
            target[count] = turnedOn;
            count++;
            return count - 1;
        }
    }

    /**
     * What the latest run saw. Packages, features, users and turns never change once they are told,
     * but for a user's asking and a package's becoming a root: so counts and those two are copied.
     */
    private static final class Snapshot {
        final Packs packs;
        final Features features;
        final Users users;
        final Turns turns;
        int platform = 0;
        int roots = 0;
        int rootsWithDefaults = 0;
        int packCount = 0;
        int featureCount = 0;
        int userCount = 0;
        int turnCount = 0;
        final int[] asked = new int[MOST_USERS];

        Snapshot(Packs packs, Features features, Users users, Turns turns) {
            this.packs = packs;
            this.features = features;
            this.users = users;
            this.turns = turns;
        }

        void take(int onPlatform) {
            platform = onPlatform;
            roots = packs.roots;
            rootsWithDefaults = packs.rootsWithDefaults;
            packCount = packs.count;
            featureCount = features.count;
            userCount = users.count;
            turnCount = turns.count;
            System.arraycopy(users.asked, 0, asked, 0, MOST_USERS);
        }

        boolean counts(int user) {
            return bit(users.platforms[user], platform);
        }

        boolean isAskedBy(int user, int feature) {
            return features.pack[feature] == users.to[user] && bit(asked[user], features.name[feature]);
        }

        boolean isDefaultFor(int user, int feature) {
            return features.pack[feature] == users.to[user] && users.defaults[user]
                    && features.byDefault[feature];
        }

        boolean isDefaultOfRoot(int feature) {
            return features.byDefault[feature] && bit(rootsWithDefaults, features.pack[feature]);
        }
    }

    /**
     * The stages of all items. Items enter the queue by growing stages, and each, when its turn
     * comes, brings in at the next stage what wants it and nothing that is still to come; so the
     * first stage that an item gets is its least.
     */
    private static final class Closure {
        final Snapshot seen;
        final int[] stage = new int[ITEMS];
        final int[] queue = new int[ITEMS];
        int queued = 0;

        Closure(Snapshot seen) {
            this.seen = seen;
        }

        int thereStage(int pack, int side) {
            return stage[SIDES * pack + side];
        }

        int liveStage(int user, int side) {
            return stage[FIRST_USER_ITEM + SIDES * user + side];
        }

        int onStage(int feature, int side) {
            return stage[FIRST_FEATURE_ITEM + SIDES * feature + side];
        }

        int greatestStage() {
            return queued == 0 ? 0 : stage[queue[queued - 1]];
        }

        void close() {
            for (int item = 0; item < ITEMS; item++) {
                stage[item] = 0;
            }
            queued = 0;
            for (int pack = 0; pack < seen.packCount; pack++) {
                if (bit(seen.roots, pack)) {
                    bringThere(pack, RUN_SIDE, 1);
                }
            }
            for (int next = 0; next < queued && next < ITEMS; next++) {
                follow(queue[next]);
            }
        }

        private void follow(int item) {
            int side = item % SIDES;
            int now = stage[item];
            if (item < FIRST_USER_ITEM) {
                followThere(item / SIDES, side, now);
            } else if (item < FIRST_FEATURE_ITEM) {
                followLive((item - FIRST_USER_ITEM) / SIDES, side, now);
            } else {
                followOn((item - FIRST_FEATURE_ITEM) / SIDES, side, now);
            }
        }

        private void followThere(int pack, int side, int now) {
            for (int user = 0; user < seen.userCount; user++) {
                if (seen.users.from[user] == pack && !seen.users.optional[user]) {
                    bringLive(user, side, now + 1);
                }
            }
            for (int feature = 0; feature < seen.featureCount; feature++) {
                if (seen.features.pack[feature] != pack) {
                    continue;
                }
                boolean byRoot = side == RUN_SIDE && seen.isDefaultOfRoot(feature);
                boolean fromOtherSide = !seen.packs.apart[pack] && isBy(onStage(feature, 1 - side), now);
                if (byRoot || fromOtherSide) {
                    bringOn(feature, side, now + 1);
                }
            }
        }

        private void followLive(int user, int side, int now) {
            int far = seen.users.farSide(user, side);
            bringThere(seen.users.to[user], far, now + 1);
            for (int feature = 0; feature < seen.featureCount; feature++) {
                if (seen.isAskedBy(user, feature) || seen.isDefaultFor(user, feature)) {
                    bringOn(feature, far, now + 1);
                }
            }
            for (int row = 0; row < seen.turnCount; row++) {
                if (seen.turns.kind[row] == TURN_WEAK && seen.turns.user[row] == user
                        && isBy(onStage(seen.turns.feature[row], side), now)) {
                    bringOn(seen.turns.target[row], far, now + 1);
                }
            }
        }

        private void followOn(int feature, int side, int now) {
            int pack = seen.features.pack[feature];
            if (!seen.packs.apart[pack] && isBy(thereStage(pack, 1 - side), now)) {
                bringOn(feature, 1 - side, now + 1);
            }
            for (int row = 0; row < seen.turnCount; row++) {
                if (seen.turns.feature[row] == feature) {
                    followTurn(row, side, now);
                }
            }
        }

        private void followTurn(int row, int side, int now) {
            int kind = seen.turns.kind[row];
            int target = seen.turns.target[row];
            if (kind == TURN_FEATURE) {
                bringOn(target, side, now + 1);
                return;
            }
            int user = seen.turns.user[row];
            if (!seen.counts(user)) {
                return;
            }
            if (kind == TURN_USER || kind == TURN_BOTH) {
                bringLive(user, side, now + 1);
            }
            if (kind == TURN_BOTH || kind == TURN_WEAK && isBy(liveStage(user, side), now)) {
                bringOn(target, seen.users.farSide(user, side), now + 1);
            }
        }

        // An item of the next stage may be queued already, and is too late for what is due now.
        private static boolean isBy(int itsStage, int now) {
            return itsStage != 0 && itsStage <= now;
        }

        private void bringThere(int pack, int side, int at) {
            bring(SIDES * pack + side, at);
        }

        private void bringLive(int user, int side, int at) {
            if (seen.counts(user)) {
                bring(FIRST_USER_ITEM + SIDES * user + side, at);
            }
        }

        private void bringOn(int feature, int side, int at) {
            bring(FIRST_FEATURE_ITEM + SIDES * feature + side, at);
        }

        private void bring(int item, int at) {
            if (stage[item] == 0 && queued < ITEMS) {
                stage[item] = at;
                queue[queued] = item;
                queued++;
            }
        }
    }

    /** The reasons of the latest run, looked up when they are asked for; coded in their order. */
    private static final class Reasons {
        final Snapshot seen;
        final Closure closure;

        Reasons(Snapshot seen, Closure closure) {
            this.seen = seen;
            this.closure = closure;
        }

        int countOf(int feature, int side) {
            int found = 0;
            for (int code = 0; code < REASON_CODES; code++) {
                if (holds(code, feature, side)) {
                    found++;
                }
            }
            return found;
        }

        int find(int feature, int side, int i) {
            int before = i;
            for (int code = 0; code < REASON_CODES && before >= 0; code++) {
                if (holds(code, feature, side)) {
                    if (before == 0) {
                        return code;
                    }
                    before--;
                }
            }
            return NONE;
        }

        private boolean holds(int code, int feature, int side) {
            int kind = code / REASON_NUMBERS;
            int number = code % REASON_NUMBERS;
            switch (kind) {
                case BY_ROOT:
                    return isByRoot(number, feature, side);
                case BY_ASKING:
                case BY_DEFAULTS:
                    return isByUser(kind, number, feature, side);
                case BY_TURN:
                case BY_TURN_THROUGH_USER:
                case BY_WEAK_TURN:
                    return isByTurn(kind, number, feature, side);
                case BY_OTHER_SIDE:
                    return isByOtherSide(number, feature, side);
                default:
                    return false;
            }
        }

        private boolean isByRoot(int pack, int feature, int side) {
            return seen.features.pack[feature] == pack && side == RUN_SIDE && seen.isDefaultOfRoot(feature)
                    && closure.thereStage(pack, RUN_SIDE) != 0;
        }

        private boolean isByUser(int kind, int number, int feature, int side) {
            int user = number / SIDES;
            int near = number % SIDES;
            if (user >= seen.userCount || closure.liveStage(user, near) == 0
                    || seen.users.farSide(user, near) != side) {
                return false;
            }
            return kind == BY_ASKING ? seen.isAskedBy(user, feature) : seen.isDefaultFor(user, feature);
        }

        private boolean isByTurn(int kind, int number, int feature, int side) {
            int row = number / SIDES;
            int near = number % SIDES;
            if (row >= seen.turnCount || seen.turns.target[row] != feature
                    || closure.onStage(seen.turns.feature[row], near) == 0) {
                return false;
            }
            int turnKind = seen.turns.kind[row];
            if (kind == BY_TURN) {
                return turnKind == TURN_FEATURE && near == side;
            }
            int user = seen.turns.user[row];
            if (user == NONE || !seen.counts(user) || seen.users.farSide(user, near) != side) {
                return false;
            }
            return kind == BY_TURN_THROUGH_USER ? turnKind == TURN_BOTH
                    : turnKind == TURN_WEAK && closure.liveStage(user, near) != 0;
        }

        private boolean isByOtherSide(int number, int feature, int side) {
            int pack = seen.features.pack[feature];
            return number == SIDES * feature + 1 - side && !seen.packs.apart[pack]
                    && closure.onStage(feature, 1 - side) != 0 && closure.thereStage(pack, side) != 0;
        }
    }
}
