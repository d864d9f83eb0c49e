import java.util.Random;

/** Long mixed runs, always the same ones: each answer and each digest beside the model's. */
public final class ModelTest {
    /** Every call is followed by a digest, and an object is used for 512 calls. */
    private static final int CALLS = 256;
    private static final int RUNS = 1500;
    private static final Due due = new Due();

    public static void main(String[] args) {
        for (int seed = 0; seed < RUNS; seed++) {
            compare(new Random(seed), seed);
        }
        due.end();
    }

    private static void compare(Random random, int seed) {
        due.part("run " + seed);
        NewsFlood real = new NewsFlood();
        Model model = new Model();
        // Few wrong arguments in most runs, so that a run gets far; seeds differ in how dense the network is.
        int wrongness = seed % 5 == 0 ? 6 : 60;
        int linking = 1 + seed % 3;
        for (int link = 0; link < 4 * linking; link++) {
            int a = random.nextInt(6);
            int b = random.nextInt(6);
            int kind = random.nextInt(2);
            due.is("addLink", real.addLink(a, b, kind), model.addLink(a, b, kind));
        }
        for (int i = 0; i < CALLS - 4 * linking; i++) {
            int method = random.nextInt(100);
            int p = value(random, 6, wrongness);
            int q = value(random, 10, wrongness);
            int r = value(random, 3, wrongness);
            int t = value(random, 30, wrongness);
            call(real, model, method, new int[] {p, q, r, t});
            due.is("digest() after call " + i + " " + method, real.digest(), model.digest());
        }
    }

    private static int value(Random random, int bound, int wrongness) {
        if (random.nextInt(wrongness) > 0) {
            return random.nextInt(bound);
        }
        int[] odd = {-1, bound, Integer.MIN_VALUE, Integer.MAX_VALUE, -6, 31, 32, 64};
        return odd[random.nextInt(odd.length)];
    }

    private static void call(NewsFlood x, Model m, int method, int[] v) {
        int host = v[0];
        int author = v[1] % 4 == 0 ? 0 : v[1];
        int small = v[2];
        int article = v[3];
        int target = article >= 0 && article < 30 ? article / 6 : article;
        if (method < 5) {
            due.is("addLink", x.addLink(host, author / 2, small & -2 | small % 2), m.addLink(host, author / 2, small & -2 | small % 2));
        } else if (method < 8) {
            due.is("removeLink", x.removeLink(article / 3), m.removeLink(article / 3));
        } else if (method < 11) {
            due.is("setKind", x.setKind(article / 3, small / 2), m.setKind(article / 3, small / 2));
        } else if (method < 14) {
            due.is("setGroups", x.setGroups(host, article / 2 | 8), m.setGroups(host, article / 2 | 8));
        } else if (method < 17) {
            due.is("setExpiry", x.setExpiry(small, article / 3), m.setExpiry(small, article / 3));
        } else if (method < 22) {
            due.is("setHistoryLimit", x.setHistoryLimit(article / 5 + 1), m.setHistoryLimit(article / 5 + 1));
        } else if (method < 32) {
            due.is("post", x.post(host, small, author), m.post(host, small, author));
        } else if (method < 44) {
            due.is("postAction", x.postAction(host, author, small, target), m.postAction(host, author, small, target));
        } else if (method < 62) {
            due.is("round", x.round(), m.round());
        } else if (method < 65) {
            due.is("settle", x.settle(), m.settle());
        } else if (method < 72) {
            due.is("nextDay", x.nextDay(), m.nextDay());
        } else if (method < 79) {
            due.is("undo", x.undo(), m.undo());
        } else {
            ask(x, m, method, v);
        }
    }

    private static void ask(NewsFlood x, Model m, int method, int[] v) {
        switch (method % 10) {
            case 0 -> due.is("isStored", x.isStored(v[0], v[3]), m.isStored(v[0], v[3]));
            case 1 -> due.is("knownSince", x.knownSince(v[0], v[3]), m.knownSince(v[0], v[3]));
            case 2 -> due.is("pendingCancels", x.pendingCancels(v[0]), m.pendingCancels(v[0]));
            case 3 -> due.is("holders", x.holders(v[3]), m.holders(v[3]));
            case 4 -> due.is("storedInGroup", x.storedInGroup(v[0], v[2]), m.storedInGroup(v[0], v[2]));
            case 5 -> due.is("distance", x.distance(v[0], v[1] / 2), m.distance(v[0], v[1] / 2));
            case 6 -> due.is("waiting", x.waiting(), m.waiting());
            case 7 -> due.is("total", x.total(v[0]), m.total(v[0]));
            case 8 -> due.is("day", x.day(), m.day());
            default -> due.is("errorCount", x.errorCount(-v[0]), m.errorCount(-v[0]));
        }
    }
}
