import java.util.ArrayList;
import java.util.Comparator;
import java.util.List;
import java.util.Set;
import java.util.TreeMap;
import java.util.TreeSet;

/**
 * The document word for word with the Java library's collections, and with a real queue that is sorted
 * at each round: what NewsFlood answers is compared with it.
 */
final class Model {
    private record Link(int first, int second, int kind) {
        boolean connects(int a, int b) {
            return first == a && second == b || first == b && second == a;
        }
    }

    private record Article(int group, int author, int day, int action, int target) {
    }

    private record Cancel(int target, int author) implements Comparable<Cancel> {
        public int compareTo(Cancel other) {
            return target != other.target ? target - other.target : author - other.author;
        }
    }

    private record Transfer(int article, int sender, int receiver, Set<Integer> path) {
    }

    private static final class Host {
        int groups = 15;
        TreeSet<Integer> store = new TreeSet<>();
        TreeMap<Integer, Integer> history = new TreeMap<>();
        TreeSet<Cancel> cancels = new TreeSet<>();

        Host copy() {
            Host copy = new Host();
            copy.groups = groups;
            copy.store = new TreeSet<>(store);
            copy.history = new TreeMap<>(history);
            copy.cancels = new TreeSet<>(cancels);
            return copy;
        }
    }

    private static final class State {
        int day = 0;
        int historyLimit = 10;
        int[] expiry = {5, 5, 5, 5};
        List<Link> links = new ArrayList<>();
        List<Article> articles = new ArrayList<>();
        List<Host> hosts = new ArrayList<>();
        List<Transfer> queue = new ArrayList<>();
        int[] totals = new int[6];

        State copy() {
            State copy = new State();
            copy.day = day;
            copy.historyLimit = historyLimit;
            copy.expiry = expiry.clone();
            copy.links = new ArrayList<>(links);
            copy.articles = new ArrayList<>(articles);
            for (Host host : hosts) {
                copy.hosts.add(host.copy());
            }
            copy.queue = new ArrayList<>(queue);
            copy.totals = totals.clone();
            return copy;
        }
    }

    private State s = new State();
    private final List<State> saved = new ArrayList<>();
    private final TreeMap<Integer, Integer> errors = new TreeMap<>();
    private long hash;

    Model() {
        for (int i = 0; i < 6; i++) {
            s.hosts.add(new Host());
        }
        for (int code = -5; code <= -2; code++) {
            errors.put(code, 0);
        }
    }

    private int error(int code) {
        errors.merge(code, 1, Integer::sum);
        return code;
    }

    private void save() {
        saved.add(s.copy());
        if (saved.size() > 4) {
            saved.remove(0);
        }
    }

    private static boolean out(int value, int low, int high) {
        return value < low || value > high;
    }

    private int linkOf(int a, int b) {
        for (int i = 0; i < s.links.size(); i++) {
            if (s.links.get(i).connects(a, b)) {
                return i;
            }
        }
        return -1;
    }

    int addLink(int a, int b, int kind) {
        if (out(a, 0, 5) || out(b, 0, 5) || out(kind, 0, 1) || a == b) return error(-2);
        if (linkOf(a, b) >= 0) return error(-3);
        if (s.links.size() == 12) return error(-4);
        save();
        s.links.add(new Link(a, b, kind));
        return s.links.size() - 1;
    }

    int removeLink(int link) {
        if (out(link, 0, s.links.size() - 1)) return error(-2);
        save();
        s.links.remove(link);
        return s.links.size();
    }

    int setKind(int link, int kind) {
        if (out(link, 0, s.links.size() - 1) || out(kind, 0, 1)) return error(-2);
        save();
        Link old = s.links.get(link);
        s.links.set(link, new Link(old.first, old.second, kind));
        return old.kind;
    }

    int setGroups(int host, int groups) {
        if (out(host, 0, 5) || out(groups, 0, 15)) return error(-2);
        save();
        int old = s.hosts.get(host).groups;
        s.hosts.get(host).groups = groups;
        return old;
    }

    int setExpiry(int group, int days) {
        if (out(group, 0, 3) || out(days, 1, 30)) return error(-2);
        save();
        int old = s.expiry[group];
        s.expiry[group] = days;
        return old;
    }

    int setHistoryLimit(int days) {
        if (out(days, 1, 30)) return error(-2);
        save();
        int old = s.historyLimit;
        s.historyLimit = days;
        return old;
    }

    int post(int host, int group, int author) {
        if (out(host, 0, 5) || out(group, 0, 3) || out(author, 0, 9)) return error(-2);
        if (s.articles.size() == 30) return error(-4);
        save();
        s.articles.add(new Article(group, author, s.day, 0, -1));
        arrive(s.articles.size() - 1, host, Set.of());
        return s.articles.size() - 1;
    }

    int postAction(int host, int author, int action, int target) {
        if (out(host, 0, 5) || out(author, 0, 9) || out(action, 1, 2)
                || out(target, 0, s.articles.size() - 1)) return error(-2);
        if (s.articles.size() == 30) return error(-4);
        save();
        s.articles.add(new Article(s.articles.get(target).group, author, s.day, action, target));
        arrive(s.articles.size() - 1, host, Set.of());
        return s.articles.size() - 1;
    }

    /** Answers whether step (6) was performed. */
    private boolean arrive(int number, int place, Set<Integer> pathSoFar) {
        Host host = s.hosts.get(place);
        Article article = s.articles.get(number);
        if (host.history.containsKey(number)) {
            s.totals[2]++;
            return false;
        }
        if (s.day - article.day >= s.historyLimit) {
            s.totals[3]++;
            return false;
        }
        host.history.put(number, s.day);
        if (host.cancels.remove(new Cancel(number, article.author))) {
            s.totals[4]++;
            return false;
        }
        if ((host.groups >> article.group) % 2 == 0) {
            return false;
        }
        host.store.add(number);
        if (article.action != 0) {
            if (host.store.contains(article.target)) {
                if (s.articles.get(article.target).author == article.author) {
                    host.store.remove(article.target);
                    s.totals[4]++;
                } else {
                    s.totals[5]++;
                }
            } else if (!host.history.containsKey(article.target)) {
                host.cancels.add(new Cancel(article.target, article.author));
            }
        }
        Set<Integer> path = new TreeSet<>(pathSoFar);
        path.add(place);
        for (int other = 0; other < 6; other++) {
            if (!path.contains(other) && linkOf(place, other) >= 0) {
                s.queue.add(new Transfer(number, place, other, path));
            }
        }
        return true;
    }

    private int performRound() {
        List<Transfer> taken = s.queue;
        s.queue = new ArrayList<>();
        taken.sort(Comparator.comparingInt(Transfer::article)
                .thenComparingInt(Transfer::sender).thenComparingInt(Transfer::receiver));
        int stored = 0;
        for (Transfer t : taken) {
            int link = linkOf(t.sender, t.receiver);
            if (link < 0) {
                continue;
            }
            if (s.links.get(link).kind == 1) {
                s.totals[1]++;
                if (s.hosts.get(t.receiver).history.containsKey(t.article)) {
                    continue;
                }
            }
            s.totals[0]++;
            if (arrive(t.article, t.receiver, t.path)) {
                stored++;
            }
        }
        return stored;
    }

    int round() {
        save();
        return performRound();
    }

    int settle() {
        save();
        int rounds = 0;
        while (!s.queue.isEmpty()) {
            performRound();
            rounds++;
        }
        return rounds;
    }

    int nextDay() {
        save();
        s.day++;
        int before = 0;
        int after = 0;
        for (Host host : s.hosts) {
            before += host.store.size();
            host.store.removeIf(n -> s.day - s.articles.get(n).day >= s.expiry[s.articles.get(n).group]);
            after += host.store.size();
            host.history.values().removeIf(since -> s.day - since >= s.historyLimit);
        }
        return before - after;
    }

    private boolean noArticle(int article) {
        return out(article, 0, s.articles.size() - 1);
    }

    int isStored(int host, int article) {
        if (out(host, 0, 5) || noArticle(article)) return error(-2);
        return s.hosts.get(host).store.contains(article) ? 1 : 0;
    }

    int knownSince(int host, int article) {
        if (out(host, 0, 5) || noArticle(article)) return error(-2);
        return s.hosts.get(host).history.getOrDefault(article, -1);
    }

    int pendingCancels(int host) {
        if (out(host, 0, 5)) return error(-2);
        return s.hosts.get(host).cancels.size();
    }

    int holders(int article) {
        if (noArticle(article)) return error(-2);
        int set = 0;
        for (int i = 0; i < 6; i++) {
            set += s.hosts.get(i).store.contains(article) ? 1 << i : 0;
        }
        return set;
    }

    int storedInGroup(int host, int group) {
        if (out(host, 0, 5) || out(group, 0, 3)) return error(-2);
        return (int) s.hosts.get(host).store.stream().filter(n -> s.articles.get(n).group == group).count();
    }

    int distance(int a, int b) {
        if (out(a, 0, 5) || out(b, 0, 5)) return error(-2);
        int[][] far = new int[6][6];
        for (int i = 0; i < 6; i++) {
            for (int j = 0; j < 6; j++) {
                far[i][j] = i == j ? 0 : linkOf(i, j) >= 0 ? 1 : 99;
            }
        }
        for (int k = 0; k < 6; k++) {
            for (int i = 0; i < 6; i++) {
                for (int j = 0; j < 6; j++) {
                    far[i][j] = Math.min(far[i][j], far[i][k] + far[k][j]);
                }
            }
        }
        return far[a][b] >= 99 ? -1 : far[a][b];
    }

    int waiting() {
        return s.queue.size();
    }

    int total(int count) {
        if (out(count, 0, 5)) return error(-2);
        return s.totals[count];
    }

    int day() {
        return s.day;
    }

    int undo() {
        if (saved.isEmpty()) return error(-5);
        s = saved.remove(saved.size() - 1);
        return saved.size();
    }

    int errorCount(int code) {
        if (out(code, -5, -2)) return error(-2);
        return errors.get(code);
    }

    private void mix(long... values) {
        for (long v : values) {
            hash = 31 * hash + v;
        }
    }

    long digest() {
        hash = 2659;
        mix(errors.get(-2), errors.get(-3), errors.get(-4), errors.get(-5), s.day, s.historyLimit);
        mix(s.expiry[0], s.expiry[1], s.expiry[2], s.expiry[3]);
        for (Link l : s.links) {
            mix(l.first, l.second, l.kind);
        }
        mix(s.articles.size());
        for (Article a : s.articles) {
            mix(a.group, a.author, a.day, a.action, a.target);
        }
        for (Host host : s.hosts) {
            mix(host.groups, host.cancels.size());
            for (int n = 0; n < s.articles.size(); n++) {
                mix(host.store.contains(n) ? 1 : 0, host.history.getOrDefault(n, -1));
            }
        }
        for (int total : s.totals) {
            mix(total);
        }
        mix(s.queue.size(), saved.size());
        return hash;
    }
}
