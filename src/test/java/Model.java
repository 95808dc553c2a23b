import java.util.ArrayList;
import java.util.HashMap;
import java.util.HashSet;
import java.util.List;
import java.util.Map;
import java.util.Set;

/**
 * The document in its slowest form: at a run every rule is written out for every item, and the
 * rules are tried round by round until a round brings nothing. Written apart from the program,
 * with no part in common, so that the two can be held against each other.
 */
final class Model {
    private record Feature(int pack, int name, boolean byDefault, int group) { }

    private record User(int from, int to, boolean defaults, boolean build, boolean optional, int platforms) {
        int far(int side) {
            return build || side == 1 ? 1 : 0;
        }
    }

    private record Turn(int feature, int kind, int user, int other) { }

    private record Asking(int user, int name) { }

    /** Kind -1: a rule that is no reason. */
    private record Rule(String item, int kind, int number, List<String> wants) { }

    private final List<Boolean> packs = new ArrayList<>();
    private final List<Feature> features = new ArrayList<>();
    private final Map<Integer, Boolean> roots = new HashMap<>();
    private final List<User> users = new ArrayList<>();
    private final Set<Asking> askings = new HashSet<>();
    private final List<Turn> turns = new ArrayList<>();

    private List<Rule> rules = new ArrayList<>();
    private Map<String, Integer> stages = new HashMap<>();
    private int platform = -1;
    private boolean changed = true;
    private List<Integer> gone = new ArrayList<>();

    int pack(boolean apart) {
        if (packs.size() == 10) {
            return -1;
        }
        packs.add(apart);
        changed = true;
        return packs.size() - 1;
    }

    int feature(int pack, int name, boolean byDefault, int group) {
        long siblings = features.stream().filter(f -> f.pack == pack).count();
        if (pack < 0 || pack >= packs.size() || name < 0 || name > 31 || group < 0 || group > 7
                || named(pack, name) >= 0 || siblings == 10 || features.size() == 60) {
            return -1;
        }
        features.add(new Feature(pack, name, byDefault, group));
        changed = true;
        return features.size() - 1;
    }

    int root(int pack, boolean defaults) {
        if (pack < 0 || pack >= packs.size() || roots.containsKey(pack)) {
            return 0;
        }
        roots.put(pack, defaults);
        changed = true;
        return 1;
    }

    int user(int from, int to, boolean defaults, boolean build, boolean optional, int platforms) {
        if (from < 0 || from >= packs.size() || to < 0 || to >= packs.size() || users.size() == 40) {
            return -1;
        }
        users.add(new User(from, to, defaults, build, optional, platforms));
        changed = true;
        return users.size() - 1;
    }

    int asks(int user, int name) {
        if (user < 0 || user >= users.size()) {
            return -1;
        }
        if (named(users.get(user).to, name) < 0) {
            return -2;
        }
        if (!askings.add(new Asking(user, name))) {
            return -3;
        }
        changed = true;
        return 1;
    }

    int turn(int feature, int kind, int user, int name) {
        if (feature < 0 || feature >= features.size() || kind < 0 || kind > 3 || turns.size() == 60) {
            return -1;
        }
        int pack = features.get(feature).pack;
        if (kind != 0 && (user < 0 || user >= users.size() || users.get(user).from != pack)) {
            return -1;
        }
        if (kind == 1 && !users.get(user).optional) {
            return -1;
        }
        int other = kind == 1 ? -1 : named(kind == 0 ? pack : users.get(user).to, name);
        if (kind != 1 && other < 0) {
            return -1;
        }
        if (kind == 0 && features.get(feature).name == name) {
            return -1;
        }
        turns.add(new Turn(feature, kind, user, other));
        changed = true;
        return turns.size() - 1;
    }

    int run(int onPlatform) {
        if (onPlatform < 0 || onPlatform > 7) {
            return -1;
        }
        platform = onPlatform;
        rules = rules(null);
        stages = close(rules);
        changed = false;
        return stages.values().stream().mapToInt(s -> s).max().orElse(0);
    }

    int there(int pack, int side) {
        return stages.getOrDefault("there " + pack + " " + side, 0);
    }

    int live(int user, int side) {
        return stages.getOrDefault("live " + user + " " + side, 0);
    }

    int on(int feature, int side) {
        return stages.getOrDefault("on " + feature + " " + side, 0);
    }

    int reasons(int feature, int side) {
        return holding(feature, side).size();
    }

    int reason(int feature, int side, int i, int what) {
        List<Rule> holding = holding(feature, side);
        if (i < 0 || i >= holding.size() || what < 0 || what > 1) {
            return -1;
        }
        return what == 0 ? holding.get(i).kind : holding.get(i).number;
    }

    int clash(int i, int what) {
        List<int[]> clashes = new ArrayList<>();
        for (int a = 0; a < features.size(); a++) {
            for (int b = a + 1; b < features.size(); b++) {
                for (int side = 0; side < 2; side++) {
                    Feature first = features.get(a);
                    Feature second = features.get(b);
                    if (first.pack == second.pack && first.group == second.group && first.group > 0
                            && on(a, side) > 0 && on(b, side) > 0) {
                        clashes.add(new int[] {a, b, side});
                    }
                }
            }
        }
        return i < 0 || i >= clashes.size() || what < 0 || what > 2 ? -1 : clashes.get(i)[what];
    }

    int without(int user, int name) {
        Asking asking = new Asking(user, name);
        if (changed || !askings.contains(asking)) {
            return -1;
        }
        Map<String, Integer> rest = close(rules(asking));
        gone = new ArrayList<>();
        for (int f = 0; f < features.size(); f++) {
            for (int side = 0; side < 2; side++) {
                String item = "on " + f + " " + side;
                if (stages.containsKey(item) && !rest.containsKey(item)) {
                    gone.add(2 * f + side);
                }
            }
        }
        return gone.size();
    }

    int left(int i) {
        return i < 0 || i >= gone.size() ? -1 : gone.get(i);
    }

    private int named(int pack, int name) {
        for (int f = 0; f < features.size(); f++) {
            if (features.get(f).pack == pack && features.get(f).name == name) {
                return f;
            }
        }
        return -1;
    }

    private List<Rule> holding(int feature, int side) {
        List<Rule> found = new ArrayList<>();
        for (Rule rule : rules) {
            if (rule.kind >= 0 && rule.item.equals("on " + feature + " " + side)
                    && stages.keySet().containsAll(rule.wants)) {
                found.add(rule);
            }
        }
        found.sort((a, b) -> a.kind != b.kind ? a.kind - b.kind : a.number - b.number);
        return found;
    }

    private static Map<String, Integer> close(List<Rule> all) {
        Map<String, Integer> known = new HashMap<>();
        for (int round = 1; ; round++) {
            Set<String> fresh = new HashSet<>();
            for (Rule rule : all) {
                if (!known.containsKey(rule.item) && known.keySet().containsAll(rule.wants)) {
                    fresh.add(rule.item);
                }
            }
            if (fresh.isEmpty()) {
                return known;
            }
            for (String item : fresh) {
                known.put(item, round);
            }
        }
    }

    private List<Rule> rules(Asking leftOut) {
        List<Rule> all = new ArrayList<>();
        for (int pack : roots.keySet()) {
            all.add(new Rule("there " + pack + " 0", -1, 0, List.of()));
        }
        for (int side = 0; side < 2; side++) {
            for (int u = 0; u < users.size(); u++) {
                userRules(all, u, side, leftOut);
            }
            for (int row = 0; row < turns.size(); row++) {
                turnRules(all, row, side);
            }
            for (int f = 0; f < features.size(); f++) {
                featureRules(all, f, side);
            }
        }
        return all;
    }

    private boolean counts(User user) {
        return (user.platforms & 1 << platform) != 0;
    }

    private void userRules(List<Rule> all, int u, int side, Asking leftOut) {
        User user = users.get(u);
        if (!counts(user)) {
            return;
        }
        List<String> live = List.of("live " + u + " " + side);
        if (!user.optional) {
            all.add(new Rule(live.get(0), -1, 0, List.of("there " + user.from + " " + side)));
        }
        all.add(new Rule("there " + user.to + " " + user.far(side), -1, 0, live));
        for (int f = 0; f < features.size(); f++) {
            Feature feature = features.get(f);
            Asking asking = new Asking(u, feature.name);
            String on = "on " + f + " " + user.far(side);
            if (feature.pack == user.to && askings.contains(asking) && !asking.equals(leftOut)) {
                all.add(new Rule(on, 1, 2 * u + side, live));
            }
            if (feature.pack == user.to && user.defaults && feature.byDefault) {
                all.add(new Rule(on, 2, 2 * u + side, live));
            }
        }
    }

    private void turnRules(List<Rule> all, int row, int side) {
        Turn turn = turns.get(row);
        String on = "on " + turn.feature + " " + side;
        if (turn.kind == 0) {
            all.add(new Rule("on " + turn.other + " " + side, 3, 2 * row + side, List.of(on)));
            return;
        }
        User user = users.get(turn.user);
        if (!counts(user)) {
            return;
        }
        String live = "live " + turn.user + " " + side;
        String other = "on " + turn.other + " " + user.far(side);
        if (turn.kind != 3) {
            all.add(new Rule(live, -1, 0, List.of(on)));
        }
        if (turn.kind == 2) {
            all.add(new Rule(other, 4, 2 * row + side, List.of(on)));
        }
        if (turn.kind == 3) {
            all.add(new Rule(other, 5, 2 * row + side, List.of(on, live)));
        }
    }

    private void featureRules(List<Rule> all, int f, int side) {
        Feature feature = features.get(f);
        String there = "there " + feature.pack + " " + side;
        String on = "on " + f + " " + side;
        if (side == 0 && feature.byDefault && roots.getOrDefault(feature.pack, false)) {
            all.add(new Rule(on, 0, feature.pack, List.of(there)));
        }
        if (!packs.get(feature.pack)) {
            all.add(new Rule(on, 6, 2 * f + 1 - side, List.of("on " + f + " " + (1 - side), there)));
        }
    }
}
