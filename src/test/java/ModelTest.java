/**
 * Promises 1 to 16 together: many runs of calls, drawn by a fixed rule, on the program and on the
 * model; each of 512 calls at most, as the document promises no more.
 */
public final class ModelTest {
    private static final Check CHECK = new Check("ModelTest");
    private static final int OBJECTS = 1500;
    private static final int CALLS = 512;

    private long seed;
    private FeatureUnions program;
    private Model model;
    private int packs;
    private int features;
    private int users;
    private int names;
    private int runs;

    public static void main(String[] args) {
        ModelTest test = new ModelTest();
        for (int i = 0; i < OBJECTS && !CHECK.isWrong(); i++) {
            test.drawRunOfCalls(i);
        }
        CHECK.finish();
    }

    private void drawRunOfCalls(int number) {
        seed = number * 7919L + 17;
        program = new FeatureUnions();
        model = new Model();
        packs = 1 + below(10);
        features = packs * (1 + below(10));
        users = 1 + below(40);
        names = 1 + below(12);
        runs = 0;
        int telling = 60 + below(300);
        for (int call = 0; call < CALLS && !CHECK.isWrong(); call++) {
            if (call < packs) {
                tell(0);
            } else if (call < telling && below(60) != 0) {
                tell(call < telling / 4 ? 1 + below(3) : below(14));
            } else if (call == telling || below(12) == 0) {
                run();
            } else if (below(30) == 0) {
                tell(below(14));
            } else {
                ask(below(12));
            }
        }
    }

    private int below(int bound) {
        seed = seed * 6364136223846793005L + 1442695040888963407L;
        return (int) ((seed >>> 33) % bound);
    }

    private boolean half() {
        return below(2) == 0;
    }

    /** Mostly a number that there is, at times one just outside, at times a wild one. */
    private int about(int bound) {
        int odd = below(100);
        if (odd == 0) {
            return Integer.MIN_VALUE + below(70);
        }
        if (odd == 1) {
            return Integer.MAX_VALUE - below(70);
        }
        return odd < 6 ? below(bound + 4) - 2 : below(bound);
    }

    private void due(String call, int got, int want) {
        CHECK.due(call + " on object of " + packs + " packs, run " + runs, got, want);
    }

    private void tell(int which) {
        int a = about(packs);
        int b = about(packs);
        int feature = about(Math.min(60, features));
        int user = about(users);
        int name = below(40) == 0 ? 31 : about(names);
        boolean p = half();
        boolean q = half();
        boolean r = half();
        int group = about(4);
        int kind = about(4);
        int platforms = below(4) == 0 ? about(256) : -1;
        if (which == 0) {
            due("pack(" + p + ")", program.pack(p), model.pack(p));
        } else if (which == 1 || which == 9) {
            due("feature(" + a + ", " + name + ", " + p + ", " + group + ")",
                    program.feature(a, name, p, group), model.feature(a, name, p, group));
        } else if (which == 2 && below(4) == 0) {
            due("root(" + a + ", " + p + ")", program.root(a, p) ? 1 : 0, model.root(a, p));
        } else if (which <= 4) {
            due("user(" + a + ", " + b + ", " + p + ", " + q + ", " + r + ", " + platforms + ")",
                    program.user(a, b, p, q, r, platforms), model.user(a, b, p, q, r, platforms));
        } else if (which <= 6) {
            due("asks(" + user + ", " + name + ")", program.asks(user, name), model.asks(user, name));
        } else {
            due("turn(" + feature + ", " + kind + ", " + user + ", " + name + ")",
                    program.turn(feature, kind, user, name), model.turn(feature, kind, user, name));
        }
    }

    private void run() {
        int platform = about(8);
        runs++;
        due("run(" + platform + ")", program.run(platform), model.run(platform));
    }

    private void ask(int which) {
        int pack = about(packs);
        int user = about(users);
        int feature = about(Math.min(60, features));
        int side = about(2);
        int name = about(names);
        int i = about(6);
        int what = about(3);
        switch (which) {
            case 0 -> due("there(" + pack + ", " + side + ")", program.there(pack, side), model.there(pack, side));
            case 1 -> due("live(" + user + ", " + side + ")", program.live(user, side), model.live(user, side));
            case 2, 3 -> due("on(" + feature + ", " + side + ")", program.on(feature, side), model.on(feature, side));
            case 4, 5 -> due("reasons(" + feature + ", " + side + ")",
                    program.reasons(feature, side), model.reasons(feature, side));
            case 6, 7 -> due("reason(" + feature + ", " + side + ", " + i + ", " + what + ")",
                    program.reason(feature, side, i, what), model.reason(feature, side, i, what));
            case 8 -> due("clash(" + i * i + ", " + what + ")", program.clash(i * i, what), model.clash(i * i, what));
            case 9, 10 -> due("without(" + user + ", " + name + ")",
                    program.without(user, name), model.without(user, name));
            default -> due("left(" + i + ")", program.left(i), model.left(i));
        }
    }
}
