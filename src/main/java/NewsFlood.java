import java.util.Arrays;

/**
 * A simulator of a news network that floods articles from host to host, in the manner of Usenet.
 *
 * All rows are made in the constructor: no later call makes an object or an array.
 */
public final class NewsFlood {
    public static final int OUT_OF_RANGE = -2;
    public static final int EXISTS = -3;
    public static final int FULL = -4;
    public static final int NOTHING_SAVED = -5;
    public static final int NONE = -1;

    private static final int HOSTS = 6;
    private static final int GROUPS = 4;
    private static final int AUTHORS = 10;
    private static final int MAX_LINKS = 12;
    private static final int MAX_ARTICLES = 30;
    private static final int MAX_SAVED = 4;
    private static final int ERROR_CODES = 4;

    private static final int ALL_GROUPS = (1 << GROUPS) - 1;
    private static final int LONGEST_LIMIT = 30;
    private static final int FIRST_EXPIRY = 5;
    private static final int FIRST_HISTORY_LIMIT = 10;

    private static final int ASK = 1;
    private static final int KINDS = 2;

    private static final int NO_ACTION = 0;
    private static final int CANCEL = 1;
    private static final int SUPERSEDE = 2;

    private static final int EMPTY_PATH = 0;

    private static final int TRANSFERS = 0;
    private static final int OFFERS = 1;
    private static final int DUPLICATES = 2;
    private static final int REFUSED_OLD = 3;
    private static final int CANCELLED = 4;
    private static final int FORGED = 5;
    private static final int COUNTS = 6;

    private static final long DIGEST_START = 2659;

    private final Network network = new Network();
    private final Queue taken = new Queue();
    private final Network[] saved = new Network[MAX_SAVED];
    private int savedCount = 0;
    private final int[] errors = new int[ERROR_CODES];

    public NewsFlood() {
        for (int i = 0; i < MAX_SAVED; i++) {
            saved[i] = new Network();
        }
    }

    // ---- network

    public int addLink(int a, int b, int kind) {
        if (!isBelow(a, HOSTS) || !isBelow(b, HOSTS) || a == b || !isBelow(kind, KINDS)) {
            return fail(OUT_OF_RANGE);
        }
        if (network.links.between(a, b) != NONE) {
            return fail(EXISTS);
        }
        if (network.links.count >= MAX_LINKS) {
            return fail(FULL);
        }
        save();
        return network.links.append(a, b, kind);
    }

    public int removeLink(int link) {
        if (!isBelow(link, network.links.count)) {
            return fail(OUT_OF_RANGE);
        }
        save();
        network.links.delete(link);
        return network.links.count;
    }

    public int setKind(int link, int kind) {
        if (!isBelow(link, network.links.count) || !isBelow(kind, KINDS)) {
            return fail(OUT_OF_RANGE);
        }
        save();
        int previous = network.links.kind[link];
        network.links.kind[link] = kind;
        return previous;
    }

    public int setGroups(int host, int groups) {
        if (!isBelow(host, HOSTS) || groups < 0 || groups > ALL_GROUPS) {
            return fail(OUT_OF_RANGE);
        }
        save();
        int previous = network.hosts[host].groups;
        network.hosts[host].groups = groups;
        return previous;
    }

    public int setExpiry(int group, int days) {
        if (!isBelow(group, GROUPS) || !isLimit(days)) {
            return fail(OUT_OF_RANGE);
        }
        save();
        int previous = network.expiry[group];
        network.expiry[group] = days;
        return previous;
    }

    public int setHistoryLimit(int days) {
        if (!isLimit(days)) {
            return fail(OUT_OF_RANGE);
        }
        save();
        int previous = network.historyLimit;
        network.historyLimit = days;
        return previous;
    }

    // ---- articles

    public int post(int host, int group, int author) {
        if (!isBelow(host, HOSTS) || !isBelow(group, GROUPS) || !isBelow(author, AUTHORS)) {
            return fail(OUT_OF_RANGE);
        }
        return publish(host, group, author, NO_ACTION, NONE);
    }

    public int postAction(int host, int author, int action, int target) {
        if (!isBelow(host, HOSTS) || !isBelow(author, AUTHORS)
                || action < CANCEL || action > SUPERSEDE || !isArticle(target)) {
            return fail(OUT_OF_RANGE);
        }
        return publish(host, network.articles.group[target], author, action, target);
    }

    public int round() {
        save();
        return network.performRound(taken);
    }

    public int settle() {
        save();
        int rounds = 0;
        // A path grows by a host in every round, so no transfer is left after HOSTS rounds.
        while (rounds < HOSTS && network.queue.size() > 0) {
            network.performRound(taken);
            rounds++;
        }
        return rounds;
    }

    public int nextDay() {
        save();
        return network.beginDay();
    }

    // ---- values

    public int isStored(int host, int article) {
        if (!isBelow(host, HOSTS) || !isArticle(article)) {
            return fail(OUT_OF_RANGE);
        }
        return network.hosts[host].stores(article) ? 1 : 0;
    }

    public int knownSince(int host, int article) {
        if (!isBelow(host, HOSTS) || !isArticle(article)) {
            return fail(OUT_OF_RANGE);
        }
        return network.hosts[host].historyDay[article];
    }

    public int pendingCancels(int host) {
        if (!isBelow(host, HOSTS)) {
            return fail(OUT_OF_RANGE);
        }
        return network.hosts[host].countCancels();
    }

    public int holders(int article) {
        if (!isArticle(article)) {
            return fail(OUT_OF_RANGE);
        }
        int set = 0;
        for (int host = 0; host < HOSTS; host++) {
            if (network.hosts[host].stores(article)) {
                set |= 1 << host;
            }
        }
        return set;
    }

    public int storedInGroup(int host, int group) {
        if (!isBelow(host, HOSTS) || !isBelow(group, GROUPS)) {
            return fail(OUT_OF_RANGE);
        }
        int stored = 0;
        for (int article = 0; article < network.articles.count; article++) {
            if (network.articles.group[article] == group && network.hosts[host].stores(article)) {
                stored++;
            }
        }
        return stored;
    }

    public int distance(int a, int b) {
        if (!isBelow(a, HOSTS) || !isBelow(b, HOSTS)) {
            return fail(OUT_OF_RANGE);
        }
        int reached = 1 << a;
        for (int steps = 0; steps < HOSTS; steps++) {
            if (has(reached, b)) {
                return steps;
            }
            reached |= network.links.neighboursOf(reached);
        }
        return NONE;
    }

    public int waiting() {
        return network.queue.size();
    }

    public int total(int count) {
        if (!isBelow(count, COUNTS)) {
            return fail(OUT_OF_RANGE);
        }
        return network.counts[count];
    }

    public int day() {
        return network.today;
    }

    // ---- state

    public int undo() {
        if (savedCount < 1) {
            return fail(NOTHING_SAVED);
        }
        savedCount--;
        network.copyFrom(saved[savedCount]);
        return savedCount;
    }

    public int errorCount(int code) {
        int slot = errorSlot(code);
        if (!isBelow(slot, ERROR_CODES)) {
            return fail(OUT_OF_RANGE);
        }
        return errors[slot];
    }

    public long digest() {
        long hash = mixAll(DIGEST_START, errors);
        hash = mix(hash, network.today);
        hash = mix(hash, network.historyLimit);
        hash = mixAll(hash, network.expiry);
        hash = mixLinks(hash, network.links);
        hash = mixArticles(hash, network.articles);
        for (int host = 0; host < HOSTS; host++) {
            hash = mixHost(hash, network.hosts[host], network.articles.count);
        }
        hash = mixAll(hash, network.counts);
        hash = mix(hash, network.queue.size());
        return mix(hash, savedCount);
    }

    // ---- helpers

    private int publish(int host, int group, int author, int action, int target) {
        if (network.articles.count >= MAX_ARTICLES) {
            return fail(FULL);
        }
        save();
        int article = network.articles.append(group, author, network.today, action, target);
        network.arrive(article, host, EMPTY_PATH);
        return article;
    }

    /** When all rows are in use, the oldest one is taken again for the new state. */
    private void save() {
        if (savedCount < MAX_SAVED) {
            savedCount++;
        } else {
            Network oldest = saved[0];
            for (int i = 1; i < MAX_SAVED; i++) {
                saved[i - 1] = saved[i];
            }
            saved[MAX_SAVED - 1] = oldest;
        }
        saved[savedCount - 1].copyFrom(network);
    }

    private int fail(int code) {
        int slot = errorSlot(code);
        if (isBelow(slot, ERROR_CODES)) {
            errors[slot]++;
        }
        return code;
    }

    /** The codes go down from OUT_OF_RANGE without a gap; NONE for what is no error code. */
    private static int errorSlot(int code) {
        return code >= NOTHING_SAVED && code <= OUT_OF_RANGE ? OUT_OF_RANGE - code : NONE;
    }

    private boolean isArticle(int article) {
        return isBelow(article, network.articles.count);
    }

    private static boolean isLimit(int days) {
        return days >= 1 && days <= LONGEST_LIMIT;
    }

    private static boolean isBelow(int value, int bound) {
        return value >= 0 && value < bound;
    }

    private static boolean has(int set, int member) {
        return (set & (1 << member)) != 0;
    }

    private static long mix(long hash, int value) {
        return 31 * hash + value;
    }

    private static long mixAll(long start, int[] values) {
        long hash = start;
        for (int value : values) {
            hash = mix(hash, value);
        }
        return hash;
    }

    private static long mixLinks(long start, Links links) {
        long hash = start;
        for (int link = 0; link < links.count; link++) {
            hash = mix(hash, links.first[link]);
            hash = mix(hash, links.second[link]);
            hash = mix(hash, links.kind[link]);
        }
        return hash;
    }

    private static long mixArticles(long start, Articles articles) {
        long hash = mix(start, articles.count);
        for (int article = 0; article < articles.count; article++) {
            hash = mix(hash, articles.group[article]);
            hash = mix(hash, articles.author[article]);
            hash = mix(hash, articles.postedOn[article]);
            hash = mix(hash, articles.action[article]);
            hash = mix(hash, articles.target[article]);
        }
        return hash;
    }

    private static long mixHost(long start, Host host, int articleCount) {
        long hash = mix(start, host.groups);
        hash = mix(hash, host.countCancels());
        for (int article = 0; article < articleCount; article++) {
            hash = mix(hash, host.stores(article) ? 1 : 0);
            hash = mix(hash, host.historyDay[article]);
        }
        return hash;
    }

    /** The links in the order of their numbers. */
    private static final class Links {
        int count = 0;
        final int[] first = new int[MAX_LINKS];
        final int[] second = new int[MAX_LINKS];
        final int[] kind = new int[MAX_LINKS];

        /** The number of the link that connects two hosts, or NONE. */
        int between(int a, int b) {
            for (int link = 0; link < count; link++) {
                boolean forth = first[link] == a && second[link] == b;
                boolean back = first[link] == b && second[link] == a;
                if (forth || back) {
                    return link;
                }
            }
            return NONE;
        }

        /** The set of the hosts that a link connects with a host of the given set. */
        int neighboursOf(int hostSet) {
            int found = 0;
            for (int link = 0; link < count; link++) {
                if (has(hostSet, first[link])) {
                    found |= 1 << second[link];
                }
                if (has(hostSet, second[link])) {
                    found |= 1 << first[link];
                }
            }
            return found;
        }

        int append(int a, int b, int newKind) {
            if (count >= MAX_LINKS) {
                return NONE;
            }
            first[count] = a;
            second[count] = b;
            kind[count] = newKind;
            count++;
            return count - 1;
        }

        void delete(int link) {
            if (!isBelow(link, count)) {
                return;
            }
            count--;
            for (int i = link; i < count; i++) {
                first[i] = first[i + 1];
                second[i] = second[i + 1];
                kind[i] = kind[i + 1];
            }
        }

        void copyFrom(Links other) {
            count = other.count;
            System.arraycopy(other.first, 0, first, 0, MAX_LINKS);
            System.arraycopy(other.second, 0, second, 0, MAX_LINKS);
            System.arraycopy(other.kind, 0, kind, 0, MAX_LINKS);
        }
    }

    /** What is the same for all copies of an article, by article number. */
    private static final class Articles {
        int count = 0;
        final int[] group = new int[MAX_ARTICLES];
        final int[] author = new int[MAX_ARTICLES];
        final int[] postedOn = new int[MAX_ARTICLES];
        final int[] action = new int[MAX_ARTICLES];
        final int[] target = new int[MAX_ARTICLES];

        int append(int newGroup, int newAuthor, int today, int newAction, int newTarget) {
            if (count >= MAX_ARTICLES) {
                return NONE;
            }
            group[count] = newGroup;
            author[count] = newAuthor;
            postedOn[count] = today;
            action[count] = newAction;
            target[count] = newTarget;
            count++;
            return count - 1;
        }

        void copyFrom(Articles other) {
            count = other.count;
            System.arraycopy(other.group, 0, group, 0, MAX_ARTICLES);
            System.arraycopy(other.author, 0, author, 0, MAX_ARTICLES);
            System.arraycopy(other.postedOn, 0, postedOn, 0, MAX_ARTICLES);
            System.arraycopy(other.action, 0, action, 0, MAX_ARTICLES);
            System.arraycopy(other.target, 0, target, 0, MAX_ARTICLES);
        }
    }

    /** A host's groups, store, history and pending cancels. */
    private static final class Host {
        int groups = ALL_GROUPS;
        int store = 0;
        /** NONE where the number is not in the history. */
        final int[] historyDay = new int[MAX_ARTICLES];
        /** For each target the set of the authors of its pending cancels: equal pairs exist once. */
        final int[] cancelAuthors = new int[MAX_ARTICLES];

        Host() {
            Arrays.fill(historyDay, NONE);
        }

        boolean carries(int group) {
            return has(groups, group);
        }

        boolean stores(int article) {
            return has(store, article);
        }

        boolean knows(int article) {
            return historyDay[article] != NONE;
        }

        void keep(int article) {
            store |= 1 << article;
        }

        void drop(int article) {
            store &= ~(1 << article);
        }

        void addCancel(int target, int author) {
            cancelAuthors[target] |= 1 << author;
        }

        /** Removes a pending cancel; answers whether it was there. */
        boolean takeCancel(int target, int author) {
            boolean found = has(cancelAuthors[target], author);
            cancelAuthors[target] &= ~(1 << author);
            return found;
        }

        int countCancels() {
            int cancels = 0;
            for (int authors : cancelAuthors) {
                cancels += Integer.bitCount(authors);
            }
            return cancels;
        }

        void copyFrom(Host other) {
            groups = other.groups;
            store = other.store;
            System.arraycopy(other.historyDay, 0, historyDay, 0, MAX_ARTICLES);
            System.arraycopy(other.cancelAuthors, 0, cancelAuthors, 0, MAX_ARTICLES);
        }
    }

    /**
     * The waiting transfers, by article and sending host: the set of receivers and the path of the copy.
     *
     * One place for each article and sender is enough. A host sends an article only when its number comes
     * into the host's history, and it can't come into it a second time before a new round has emptied the
     * queue. So no two waiting transfers are equal, and going through the table is going in the order of
     * the document.
     */
    private static final class Queue {
        final int[] receivers = new int[MAX_ARTICLES * HOSTS];
        final int[] path = new int[MAX_ARTICLES * HOSTS];

        static int slot(int article, int sender) {
            return article * HOSTS + sender;
        }

        void put(int article, int sender, int receiverSet, int copyPath) {
            receivers[slot(article, sender)] = receiverSet;
            path[slot(article, sender)] = copyPath;
        }

        int size() {
            int transfers = 0;
            for (int set : receivers) {
                transfers += Integer.bitCount(set);
            }
            return transfers;
        }

        void makeEmpty() {
            Arrays.fill(receivers, 0);
            Arrays.fill(path, EMPTY_PATH);
        }

        void copyFrom(Queue other) {
            System.arraycopy(other.receivers, 0, receivers, 0, receivers.length);
            System.arraycopy(other.path, 0, path, 0, path.length);
        }
    }

    /** All that undo restores. */
    private static final class Network {
        int today = 0;
        int historyLimit = FIRST_HISTORY_LIMIT;
        final int[] expiry = new int[GROUPS];
        final Links links = new Links();
        final Articles articles = new Articles();
        final Host[] hosts = new Host[HOSTS];
        final Queue queue = new Queue();
        final int[] counts = new int[COUNTS];

        Network() {
            Arrays.fill(expiry, FIRST_EXPIRY);
            for (int host = 0; host < HOSTS; host++) {
                hosts[host] = new Host();
            }
        }

        /** Steps (1) to (8) of the document; answers whether step (6) was performed. */
        boolean arrive(int article, int place, int pathSoFar) {
            Host host = hosts[place];
            if (host.knows(article)) {
                counts[DUPLICATES]++;
                return false;
            }
            if (today - articles.postedOn[article] >= historyLimit) {
                counts[REFUSED_OLD]++;
                return false;
            }
            host.historyDay[article] = today;
            if (host.takeCancel(article, articles.author[article])) {
                counts[CANCELLED]++;
                return false;
            }
            if (!host.carries(articles.group[article])) {
                return false;
            }
            host.keep(article);
            if (articles.action[article] != NO_ACTION) {
                actOnTarget(article, host);
            }
            int path = pathSoFar | (1 << place);
            queue.put(article, place, links.neighboursOf(1 << place) & ~path, path);
            return true;
        }

        /** Cancel and supersede do the same; the article must have an action. */
        void actOnTarget(int article, Host host) {
            int target = articles.target[article];
            int author = articles.author[article];
            if (host.stores(target)) {
                if (articles.author[target] == author) {
                    host.drop(target);
                    counts[CANCELLED]++;
                } else {
                    counts[FORGED]++;
                }
            } else if (!host.knows(target)) {
                host.addCancel(target, author);
            }
        }

        /** Answers how many arrivals came to step (6); the row is for the transfers that the round takes out. */
        int performRound(Queue row) {
            row.copyFrom(queue);
            queue.makeEmpty();
            int stored = 0;
            for (int article = 0; article < articles.count; article++) {
                for (int sender = 0; sender < HOSTS; sender++) {
                    int slot = Queue.slot(article, sender);
                    for (int receiver = 0; receiver < HOSTS; receiver++) {
                        if (has(row.receivers[slot], receiver)
                                && sendTo(article, sender, receiver, row.path[slot])) {
                            stored++;
                        }
                    }
                }
            }
            return stored;
        }

        boolean sendTo(int article, int sender, int receiver, int path) {
            int link = links.between(sender, receiver);
            if (link == NONE) {
                return false;
            }
            if (links.kind[link] == ASK) {
                counts[OFFERS]++;
                if (hosts[receiver].knows(article)) {
                    return false;
                }
            }
            counts[TRANSFERS]++;
            return arrive(article, receiver, path);
        }

        /** Answers how many articles left a store. */
        int beginDay() {
            today++;
            int left = 0;
            for (int host = 0; host < HOSTS; host++) {
                left += expireStore(hosts[host]);
                forgetOld(hosts[host]);
            }
            return left;
        }

        int expireStore(Host host) {
            int left = 0;
            for (int article = 0; article < articles.count; article++) {
                int age = today - articles.postedOn[article];
                if (host.stores(article) && age >= expiry[articles.group[article]]) {
                    host.drop(article);
                    left++;
                }
            }
            return left;
        }

        void forgetOld(Host host) {
            for (int article = 0; article < articles.count; article++) {
                if (host.knows(article) && today - host.historyDay[article] >= historyLimit) {
                    host.historyDay[article] = NONE;
                }
            }
        }

        void copyFrom(Network other) {
            today = other.today;
            historyLimit = other.historyLimit;
            System.arraycopy(other.expiry, 0, expiry, 0, GROUPS);
            links.copyFrom(other.links);
            articles.copyFrom(other.articles);
            for (int host = 0; host < HOSTS; host++) {
                hosts[host].copyFrom(other.hosts[host]);
            }
            queue.copyFrom(other.queue);
            System.arraycopy(other.counts, 0, counts, 0, COUNTS);
        }
    }
}
