/** Networks that several tests begin with. */
final class Nets {
    /** Twelve pairs of hosts; the pairs 3-4, 3-5 and 4-5 are not among them. */
    static final int[][] PAIRS = {
        {0, 1}, {0, 2}, {0, 3}, {0, 4}, {0, 5}, {1, 2}, {1, 3}, {1, 4}, {1, 5}, {2, 3}, {2, 4}, {2, 5}};

    private Nets() {
    }

    /** Push links between the hosts of each pair of numbers. */
    static NewsFlood links(int... ends) {
        NewsFlood x = new NewsFlood();
        for (int i = 0; i + 1 < ends.length; i += 2) {
            x.addLink(ends[i], ends[i + 1], 0);
        }
        return x;
    }

    /** A line of hosts 0 - 1 - .. - last, all push. */
    static NewsFlood line(int last) {
        NewsFlood x = new NewsFlood();
        for (int host = 0; host < last; host++) {
            x.addLink(host, host + 1, 0);
        }
        return x;
    }

    /** As many links as there can be; the odd ones ask. */
    static NewsFlood twelveLinks() {
        NewsFlood x = new NewsFlood();
        for (int i = 0; i < PAIRS.length; i++) {
            x.addLink(PAIRS[i][0], PAIRS[i][1], i % 2);
        }
        return x;
    }

    /** As many articles as there can be: article n is at host n % 6, in group n % 4, by author n % 10. */
    static NewsFlood thirtyArticles() {
        NewsFlood x = new NewsFlood();
        for (int i = 0; i < 30; i++) {
            x.post(i % 6, i % 4, i % 10);
        }
        return x;
    }

    /** As many links and articles as there can be, most of the articles under way. */
    static NewsFlood full() {
        NewsFlood x = twelveLinks();
        for (int i = 0; i < 30; i++) {
            x.post(i % 6, i % 4, i % 10);
            if (i == 20) {
                x.round();
                x.nextDay();
            }
        }
        return x;
    }

    /** Three links, three articles, transfers that wait, a pending cancel and four saved states. */
    static NewsFlood busy() {
        NewsFlood x = new NewsFlood();
        x.addLink(0, 1, 0);
        x.addLink(2, 1, 1);
        x.addLink(2, 3, 0);
        x.setHistoryLimit(8);
        x.setExpiry(2, 3);
        x.setGroups(3, 7);
        x.post(0, 1, 5);
        x.round();
        x.nextDay();
        x.postAction(3, 5, 1, 0);
        x.post(2, 2, 9);
        return x;
    }
}
