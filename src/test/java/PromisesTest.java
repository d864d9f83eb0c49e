/** Each promise on its own: ordinary inputs, the edges that the document names, and wrong inputs. */
public final class PromisesTest {
    private static final int MIN = Integer.MIN_VALUE;
    private static final int MAX = Integer.MAX_VALUE;
    private static final Due due = new Due();

    public static void main(String[] args) {
        newObject();
        addLink();
        addLinkErrors();
        removeLink();
        setKind();
        setGroups();
        setExpiry();
        setHistoryLimit();
        post();
        postAction();
        round();
        settle();
        nextDay();
        isStored();
        knownSince();
        pendingCancels();
        holders();
        storedInGroup();
        distance();
        waiting();
        total();
        day();
        undo();
        undoTakesBackEveryUndoableCall();
        errorCount();
        digest();
        due.end();
    }

    private static long hash(long... values) {
        long h = 2659;
        for (long v : values) {
            h = 31 * h + v;
        }
        return h;
    }

    private static void newObject() {
        due.part("promise 1");
        NewsFlood x = new NewsFlood();
        due.is("day()", x.day(), 0);
        due.is("waiting()", x.waiting(), 0);
        for (int code = -5; code <= -2; code++) {
            due.is("errorCount(" + code + ")", x.errorCount(code), 0);
        }
        for (int count = 0; count < 6; count++) {
            due.is("total(" + count + ")", x.total(count), 0);
        }
        due.is("undo()", x.undo(), -5);
        due.is("removeLink(0)", x.removeLink(0), -2);
        due.is("holders(0)", x.holders(0), -2);
        for (int host = 0; host < 6; host++) {
            due.is("pendingCancels(" + host + ")", x.pendingCancels(host), 0);
            due.is("setGroups(" + host + ", 1)", x.setGroups(host, 1), 15);
        }
        for (int group = 0; group < 4; group++) {
            due.is("setExpiry(" + group + ", 1)", x.setExpiry(group, 1), 5);
        }
        due.is("setHistoryLimit(1)", x.setHistoryLimit(1), 10);
        due.is("another object's day()", new NewsFlood().day(), 0);
        due.is("another object's setGroups(0, 2)", new NewsFlood().setGroups(0, 2), 15);
    }

    private static void addLink() {
        due.part("promise 2");
        NewsFlood x = Nets.twelveLinks();
        due.is("setKind(0, 0)", x.setKind(0, 0), 0);
        due.is("setKind(11, 0)", x.setKind(11, 0), 1);
        due.is("addLink(3, 4, 0)", x.addLink(3, 4, 0), -4);
        due.is("addLink(5, 4, 1)", x.addLink(5, 4, 1), -4);
        due.is("addLink(2, 5, 0), EXISTS before FULL", x.addLink(2, 5, 0), -3);
        due.is("addLink(5, 2, 0), EXISTS before FULL", x.addLink(5, 2, 0), -3);
        due.is("addLink(3, 4, 2), OUT_OF_RANGE before FULL", x.addLink(3, 4, 2), -2);
        due.is("addLink(0, 1, -1), OUT_OF_RANGE before EXISTS", x.addLink(0, 1, -1), -2);
        due.is("removeLink(0)", x.removeLink(0), 11);
        due.is("addLink(3, 4, 0) with room", x.addLink(3, 4, 0), 11);
        due.is("undo()", x.undo(), 3);
        due.is("distance(3, 4) after undo", x.distance(3, 4), 2);
        NewsFlood y = new NewsFlood();
        y.addLink(5, 0, 0);
        y.post(0, 0, 0);
        due.is("round(), from second to first host", y.round(), 1);
        y.post(5, 0, 0);
        due.is("round(), from first to second host", y.round(), 1);
    }

    private static void addLinkErrors() {
        int[][] wrong = {{0, 0, 0}, {5, 5, 1}, {-1, 0, 0}, {0, -1, 0}, {6, 0, 0}, {0, 6, 0}, {0, 1, -1}, {0, 1, 2},
            {MIN, 0, 0}, {0, MAX, 0}, {32, 1, 0}, {0, 1, MIN}, {0, 1, MAX}};
        NewsFlood x = new NewsFlood();
        for (int[] w : wrong) {
            due.is("addLink(" + w[0] + ", " + w[1] + ", " + w[2] + ")", x.addLink(w[0], w[1], w[2]), -2);
        }
        due.is("errorCount(-2)", x.errorCount(-2), wrong.length);
        due.is("removeLink(0), nothing was added", x.removeLink(0), -2);
        due.is("undo(), nothing was saved", x.undo(), -5);
    }

    private static void removeLink() {
        due.part("promise 3");
        NewsFlood x = Nets.line(3);
        x.setKind(2, 1);
        due.is("removeLink(3)", x.removeLink(3), -2);
        due.is("removeLink(-1)", x.removeLink(-1), -2);
        due.is("removeLink(MIN)", x.removeLink(MIN), -2);
        due.is("removeLink(MAX)", x.removeLink(MAX), -2);
        due.is("removeLink(1)", x.removeLink(1), 2);
        due.is("distance(1, 2)", x.distance(1, 2), -1);
        due.is("distance(0, 1)", x.distance(0, 1), 1);
        due.is("distance(2, 3)", x.distance(2, 3), 1);
        due.is("setKind(1, 0), the one that moved down", x.setKind(1, 0), 1);
        due.is("removeLink(2)", x.removeLink(2), -2);
        due.is("removeLink(1)", x.removeLink(1), 1);
        due.is("removeLink(0)", x.removeLink(0), 0);
        due.is("removeLink(0)", x.removeLink(0), -2);
        due.is("undo()", x.undo(), 3);
        due.is("removeLink(0) after undo", x.removeLink(0), 0);
        due.is("addLink(4, 5, 0) after all are gone", x.addLink(4, 5, 0), 0);
        NewsFlood full = Nets.twelveLinks();
        due.is("removeLink(12)", full.removeLink(12), -2);
        due.is("removeLink(11)", full.removeLink(11), 11);
        due.is("distance(2, 5)", full.distance(2, 5), 2);
    }

    private static void setKind() {
        due.part("promise 4");
        NewsFlood x = Nets.line(1);
        int[][] wrong = {{1, 0}, {-1, 0}, {0, 2}, {0, -1}, {MIN, 0}, {MAX, 0}, {0, MIN}, {0, MAX}};
        for (int[] w : wrong) {
            due.is("setKind(" + w[0] + ", " + w[1] + ")", x.setKind(w[0], w[1]), -2);
        }
        due.is("setKind(0, 1)", x.setKind(0, 1), 0);
        due.is("setKind(0, 1)", x.setKind(0, 1), 1);
        due.is("setKind(0, 0)", x.setKind(0, 0), 1);
        due.is("undo()", x.undo(), 3);
        due.is("setKind(0, 1) after undo", x.setKind(0, 1), 1);
        x.post(0, 0, 0);
        x.round();
        due.is("total(1), the link asks", x.total(1), 1);
        NewsFlood y = Nets.line(1);
        y.post(0, 0, 0);
        y.setKind(0, 1);
        y.round();
        due.is("total(1), the kind at the time of the transfer", y.total(1), 1);
        NewsFlood z = new NewsFlood();
        z.addLink(0, 1, 1);
        z.post(0, 0, 0);
        z.setKind(0, 0);
        z.round();
        due.is("total(1), the kind at the time of the transfer", z.total(1), 0);
        due.is("total(0)", z.total(0), 1);
    }

    private static void setGroups() {
        due.part("promise 5");
        NewsFlood x = Nets.line(2);
        int[][] wrong = {{6, 0}, {-1, 0}, {0, 16}, {0, -1}, {MIN, 0}, {MAX, 0}, {0, MIN}, {0, MAX}};
        for (int[] w : wrong) {
            due.is("setGroups(" + w[0] + ", " + w[1] + ")", x.setGroups(w[0], w[1]), -2);
        }
        due.is("setGroups(1, 4)", x.setGroups(1, 4), 15);
        due.is("setGroups(1, 11)", x.setGroups(1, 11), 4);
        due.is("setGroups(0, 0), of another host", x.setGroups(0, 0), 15);
        due.is("undo()", x.undo(), 3);
        due.is("setGroups(0, 15)", x.setGroups(0, 15), 15);
        x.post(0, 2, 0);
        due.is("settle(), a host without the group is an end", x.settle(), 1);
        due.is("holders(0)", x.holders(0), 1);
        due.is("knownSince(1, 0)", x.knownSince(1, 0), 0);
        due.is("knownSince(2, 0)", x.knownSince(2, 0), -1);
        x.post(0, 3, 0);
        due.is("settle(), a group that it carries", x.settle(), 2);
        due.is("setGroups(1, 0)", x.setGroups(1, 0), 11);
        due.is("holders(1), what is in the store stays", x.holders(1), 7);
        due.is("setGroups(5, 0)", x.setGroups(5, 0), 15);
        x.post(5, 0, 0);
        due.is("holders(2), posted where the group is not carried", x.holders(2), 0);
        due.is("knownSince(5, 2)", x.knownSince(5, 2), 0);
    }

    private static void setExpiry() {
        due.part("promise 6");
        NewsFlood x = new NewsFlood();
        int[][] wrong = {{4, 1}, {-1, 1}, {0, 0}, {0, 31}, {MIN, 1}, {MAX, 1}, {0, MIN}, {0, MAX}, {0, -1}};
        for (int[] w : wrong) {
            due.is("setExpiry(" + w[0] + ", " + w[1] + ")", x.setExpiry(w[0], w[1]), -2);
        }
        due.is("setExpiry(3, 30)", x.setExpiry(3, 30), 5);
        due.is("setExpiry(3, 1)", x.setExpiry(3, 1), 30);
        due.is("undo()", x.undo(), 1);
        due.is("setExpiry(3, 2)", x.setExpiry(3, 2), 30);
        due.is("setExpiry(2, 3), of another group", x.setExpiry(2, 3), 5);
        x.post(0, 3, 0);
        x.post(0, 2, 0);
        x.post(0, 1, 0);
        due.is("nextDay()", x.nextDay(), 0);
        due.is("nextDay(), group 3 after 2 days", x.nextDay(), 1);
        due.is("isStored(0, 0)", x.isStored(0, 0), 0);
        due.is("nextDay(), group 2 after 3 days", x.nextDay(), 1);
        due.is("isStored(0, 1)", x.isStored(0, 1), 0);
        due.is("setExpiry(1, 1)", x.setExpiry(1, 1), 5);
        due.is("isStored(0, 2), nothing leaves before a new day", x.isStored(0, 2), 1);
        due.is("setExpiry(1, 5)", x.setExpiry(1, 5), 1);
        due.is("nextDay()", x.nextDay(), 0);
        due.is("nextDay(), group 1 after 5 days", x.nextDay(), 1);
    }

    private static void setHistoryLimit() {
        due.part("promise 7");
        NewsFlood x = new NewsFlood();
        int[] wrong = {0, 31, -1, MIN, MAX};
        for (int w : wrong) {
            due.is("setHistoryLimit(" + w + ")", x.setHistoryLimit(w), -2);
        }
        due.is("setHistoryLimit(30)", x.setHistoryLimit(30), 10);
        due.is("setHistoryLimit(1)", x.setHistoryLimit(1), 30);
        due.is("undo()", x.undo(), 1);
        due.is("setHistoryLimit(2)", x.setHistoryLimit(2), 30);
        x.post(0, 0, 0);
        x.nextDay();
        due.is("knownSince(0, 0)", x.knownSince(0, 0), 0);
        due.is("setHistoryLimit(1)", x.setHistoryLimit(1), 2);
        due.is("knownSince(0, 0), nothing leaves before a new day", x.knownSince(0, 0), 0);
        due.is("setHistoryLimit(2)", x.setHistoryLimit(2), 1);
        x.nextDay();
        due.is("knownSince(0, 0)", x.knownSince(0, 0), -1);
    }

    private static void post() {
        due.part("promise 8");
        NewsFlood x = Nets.line(2);
        int[][] wrong = {{6, 0, 0}, {-1, 0, 0}, {0, 4, 0}, {0, -1, 0}, {0, 0, 10}, {0, 0, -1},
            {MIN, 0, 0}, {MAX, 0, 0}, {0, MIN, 0}, {0, MAX, 0}, {0, 0, MIN}, {0, 0, MAX}};
        for (int[] w : wrong) {
            due.is("post(" + w[0] + ", " + w[1] + ", " + w[2] + ")", x.post(w[0], w[1], w[2]), -2);
        }
        due.is("holders(0), nothing was posted", x.holders(0), -2);
        due.is("post(1, 3, 9)", x.post(1, 3, 9), 0);
        due.is("holders(0)", x.holders(0), 2);
        due.is("knownSince(1, 0)", x.knownSince(1, 0), 0);
        due.is("storedInGroup(1, 3)", x.storedInGroup(1, 3), 1);
        due.is("waiting(), to both neighbours", x.waiting(), 2);
        due.is("total(0), posting is no transfer", x.total(0), 0);
        x.nextDay();
        due.is("post(0, 0, 0)", x.post(0, 0, 0), 1);
        due.is("knownSince(0, 1)", x.knownSince(0, 1), 1);
        due.is("undo()", x.undo(), 3);
        due.is("holders(1) after undo", x.holders(1), -2);
        due.is("waiting() after undo", x.waiting(), 2);
        due.is("post(5, 1, 1), the number is free again", x.post(5, 1, 1), 1);
        due.is("waiting(), a host without neighbours", x.waiting(), 2);

        NewsFlood full = Nets.thirtyArticles();
        due.is("post(0, 0, 0)", full.post(0, 0, 0), -4);
        due.is("post(0, 0, 10), OUT_OF_RANGE before FULL", full.post(0, 0, 10), -2);
        due.is("holders(30)", full.holders(30), -2);
        due.is("holders(29)", full.holders(29), 32);
        due.is("undo()", full.undo(), 3);
        due.is("post(0, 0, 0)", full.post(0, 0, 0), 29);
    }

    private static void postAction() {
        due.part("promise 9");
        NewsFlood x = Nets.line(1);
        due.is("postAction(0, 0, 1, 0), no article yet", x.postAction(0, 0, 1, 0), -2);
        x.post(0, 2, 7);
        int[][] wrong = {{6, 0, 1, 0}, {-1, 0, 1, 0}, {0, 10, 1, 0}, {0, -1, 1, 0}, {0, 0, 0, 0}, {0, 0, 3, 0},
            {0, 0, 1, 1}, {0, 0, 1, -1}, {MIN, 0, 1, 0}, {0, MAX, 1, 0}, {0, 0, MIN, 0}, {0, 0, MAX, 0},
            {0, 0, 1, MIN}, {0, 0, 1, MAX}, {0, 0, -1, 0}};
        for (int[] w : wrong) {
            String call = "postAction(" + w[0] + ", " + w[1] + ", " + w[2] + ", " + w[3] + ")";
            due.is(call, x.postAction(w[0], w[1], w[2], w[3]), -2);
        }
        due.is("postAction(0, 7, 1, 0)", x.postAction(0, 7, 1, 0), 1);
        due.is("holders(0)", x.holders(0), 0);
        due.is("holders(1)", x.holders(1), 1);
        due.is("storedInGroup(0, 2), the group of the target", x.storedInGroup(0, 2), 1);
        due.is("total(4)", x.total(4), 1);
        due.is("postAction(0, 7, 2, 1), a cancel can be superseded", x.postAction(0, 7, 2, 1), 2);
        due.is("holders(1)", x.holders(1), 0);
        due.is("holders(2)", x.holders(2), 1);
        due.is("total(4)", x.total(4), 2);
        due.is("undo()", x.undo(), 3);
        due.is("holders(1) after undo", x.holders(1), 1);
        due.is("total(4) after undo", x.total(4), 1);
        due.is("postAction(0, 3, 2, 1), another author", x.postAction(0, 3, 2, 1), 2);
        due.is("holders(1)", x.holders(1), 1);
        due.is("total(5)", x.total(5), 1);
        due.is("waiting(), actions spread too", x.waiting(), 3);

        NewsFlood full = Nets.thirtyArticles();
        due.is("postAction(0, 0, 1, 29)", full.postAction(0, 0, 1, 29), -4);
        due.is("postAction(0, 0, 1, 30), OUT_OF_RANGE before FULL", full.postAction(0, 0, 1, 30), -2);
        due.is("errorCount(-4)", full.errorCount(-4), 1);
    }

    private static void round() {
        due.part("promise 10");
        NewsFlood x = Nets.line(3);
        due.is("round(), an empty queue", x.round(), 0);
        due.is("undo(), also that was saved", x.undo(), 3);
        x.post(1, 0, 0);
        due.is("round(), two hosts at once", x.round(), 2);
        due.is("holders(0), what arises waits", x.holders(0), 7);
        due.is("waiting()", x.waiting(), 1);
        due.is("round()", x.round(), 1);
        due.is("round()", x.round(), 0);
        due.is("undo()", x.undo(), 3);
        due.is("undo()", x.undo(), 2);
        due.is("holders(0) after two undos", x.holders(0), 7);
        due.is("waiting() after two undos", x.waiting(), 1);
        NewsFlood y = Nets.line(2);
        y.setGroups(1, 14);
        y.post(0, 0, 0);
        due.is("round(), no group, so no step (6)", y.round(), 0);
        due.is("total(0), but a transfer", y.total(0), 1);
    }

    private static void settle() {
        due.part("promise 11");
        NewsFlood x = Nets.line(5);
        due.is("settle(), an empty queue", x.settle(), 0);
        due.is("undo(), also that was saved", x.undo(), 3);
        x.post(0, 0, 0);
        due.is("settle()", x.settle(), 5);
        due.is("holders(0)", x.holders(0), 63);
        due.is("waiting()", x.waiting(), 0);
        due.is("undo(), one state for all rounds", x.undo(), 3);
        due.is("holders(0) after undo", x.holders(0), 1);
        due.is("waiting() after undo", x.waiting(), 1);
        x.removeLink(0);
        due.is("settle(), a round in which all is dropped", x.settle(), 1);
        due.is("holders(0)", x.holders(0), 1);
        NewsFlood ring = Nets.line(5);
        ring.addLink(5, 0, 0);
        ring.post(0, 0, 0);
        due.is("settle(), a ring", ring.settle(), 4);
        due.is("total(0)", ring.total(0), 7);
        due.is("total(2), echoes from the other side", ring.total(2), 2);
    }

    private static void nextDay() {
        due.part("promise 12");
        NewsFlood x = Nets.line(1);
        x.post(0, 0, 0);
        x.settle();
        x.post(0, 1, 0);
        x.setExpiry(0, 2);
        due.is("nextDay()", x.nextDay(), 0);
        due.is("day()", x.day(), 1);
        x.post(1, 0, 0);
        due.is("nextDay(), one article at two hosts", x.nextDay(), 2);
        due.is("holders(0)", x.holders(0), 0);
        due.is("holders(1)", x.holders(1), 1);
        due.is("holders(2)", x.holders(2), 2);
        due.is("waiting(), the queue stays", x.waiting(), 2);
        due.is("undo()", x.undo(), 3);
        due.is("day() after undo", x.day(), 1);
        due.is("holders(0) after undo", x.holders(0), 3);
        due.is("nextDay() again", x.nextDay(), 2);
        due.is("nextDay()", x.nextDay(), 1);

        NewsFlood y = new NewsFlood();
        y.post(0, 0, 0);
        y.setExpiry(0, 30);
        for (int day = 1; day < 10; day++) {
            due.is("nextDay()", y.nextDay(), 0);
            due.is("knownSince(0, 0)", y.knownSince(0, 0), 0);
        }
        due.is("nextDay()", y.nextDay(), 0);
        due.is("knownSince(0, 0), the history forgets after 10 days", y.knownSince(0, 0), -1);
        due.is("isStored(0, 0), but the store has it", y.isStored(0, 0), 1);

        NewsFlood full = Nets.thirtyArticles();
        due.is("setExpiry(2, 1)", full.setExpiry(2, 1), 5);
        due.is("nextDay(), of thirty articles seven in group 2", full.nextDay(), 7);
        due.is("setHistoryLimit(1)", full.setHistoryLimit(1), 10);
        due.is("nextDay()", full.nextDay(), 0);
        due.is("knownSince(5, 29)", full.knownSince(5, 29), -1);
        due.is("isStored(5, 29)", full.isStored(5, 29), 1);
    }

    private static void isStored() {
        due.part("promise 13");
        NewsFlood x = Nets.line(1);
        due.is("isStored(0, 0)", x.isStored(0, 0), -2);
        x.post(1, 0, 0);
        due.is("isStored(0, 0)", x.isStored(0, 0), 0);
        due.is("isStored(1, 0)", x.isStored(1, 0), 1);
        int[][] wrong = {{6, 0}, {-1, 0}, {0, 1}, {0, -1}, {MIN, 0}, {MAX, 0}, {0, MIN}, {0, MAX}};
        for (int[] w : wrong) {
            due.is("isStored(" + w[0] + ", " + w[1] + ")", x.isStored(w[0], w[1]), -2);
        }
        due.is("errorCount(-2)", x.errorCount(-2), 1 + wrong.length);
        NewsFlood full = Nets.thirtyArticles();
        due.is("isStored(5, 29)", full.isStored(5, 29), 1);
        due.is("isStored(5, 30)", full.isStored(5, 30), -2);
        due.is("isStored(5, 61), no wrapping of bits", full.isStored(5, 61), -2);
    }

    private static void knownSince() {
        due.part("promise 14");
        NewsFlood x = Nets.line(1);
        due.is("knownSince(0, 0)", x.knownSince(0, 0), -2);
        x.nextDay();
        x.post(1, 0, 0);
        due.is("knownSince(0, 0)", x.knownSince(0, 0), -1);
        due.is("knownSince(1, 0)", x.knownSince(1, 0), 1);
        x.nextDay();
        x.round();
        due.is("knownSince(0, 0), the day of arrival", x.knownSince(0, 0), 2);
        due.is("knownSince(1, 0)", x.knownSince(1, 0), 1);
        int[][] wrong = {{6, 0}, {-1, 0}, {0, 1}, {0, -1}, {MIN, 0}, {MAX, 0}, {0, MIN}, {0, MAX}};
        for (int[] w : wrong) {
            due.is("knownSince(" + w[0] + ", " + w[1] + ")", x.knownSince(w[0], w[1]), -2);
        }
    }

    private static void pendingCancels() {
        due.part("promise 15");
        NewsFlood x = new NewsFlood();
        x.post(0, 0, 0);
        x.post(0, 1, 0);
        due.is("pendingCancels(1)", x.pendingCancels(1), 0);
        x.postAction(1, 3, 1, 0);
        due.is("pendingCancels(1)", x.pendingCancels(1), 1);
        x.postAction(1, 3, 2, 0);
        due.is("pendingCancels(1), equal pairs exist once", x.pendingCancels(1), 1);
        x.postAction(1, 4, 1, 0);
        due.is("pendingCancels(1), another author", x.pendingCancels(1), 2);
        x.postAction(1, 3, 1, 1);
        due.is("pendingCancels(1), another target", x.pendingCancels(1), 3);
        due.is("pendingCancels(0)", x.pendingCancels(0), 0);
        due.is("pendingCancels(5)", x.pendingCancels(5), 0);
        int[] wrong = {6, -1, MIN, MAX};
        for (int w : wrong) {
            due.is("pendingCancels(" + w + ")", x.pendingCancels(w), -2);
        }
        due.is("undo()", x.undo(), 3);
        due.is("pendingCancels(1) after undo", x.pendingCancels(1), 2);
    }

    private static void holders() {
        due.part("promise 16");
        NewsFlood x = Nets.line(5);
        due.is("holders(0)", x.holders(0), -2);
        x.post(5, 0, 0);
        due.is("holders(0)", x.holders(0), 32);
        x.round();
        due.is("holders(0)", x.holders(0), 48);
        x.settle();
        due.is("holders(0)", x.holders(0), 63);
        int[] wrong = {1, -1, 30, 32, MIN, MAX};
        for (int w : wrong) {
            due.is("holders(" + w + ")", x.holders(w), -2);
        }
    }

    private static void storedInGroup() {
        due.part("promise 17");
        NewsFlood x = new NewsFlood();
        due.is("storedInGroup(0, 0)", x.storedInGroup(0, 0), 0);
        x.post(0, 0, 0);
        x.post(0, 0, 0);
        x.post(0, 3, 0);
        x.post(1, 0, 0);
        due.is("storedInGroup(0, 0)", x.storedInGroup(0, 0), 2);
        due.is("storedInGroup(0, 3)", x.storedInGroup(0, 3), 1);
        due.is("storedInGroup(0, 1)", x.storedInGroup(0, 1), 0);
        due.is("storedInGroup(1, 0)", x.storedInGroup(1, 0), 1);
        due.is("storedInGroup(5, 0)", x.storedInGroup(5, 0), 0);
        x.setGroups(0, 0);
        due.is("storedInGroup(0, 0), not carried any more", x.storedInGroup(0, 0), 2);
        int[][] wrong = {{6, 0}, {-1, 0}, {0, 4}, {0, -1}, {MIN, 0}, {MAX, 0}, {0, MIN}, {0, MAX}};
        for (int[] w : wrong) {
            due.is("storedInGroup(" + w[0] + ", " + w[1] + ")", x.storedInGroup(w[0], w[1]), -2);
        }
        NewsFlood full = Nets.thirtyArticles();
        due.is("storedInGroup(5, 1), articles 5, 17 and 29", full.storedInGroup(5, 1), 3);
        due.is("storedInGroup(5, 0)", full.storedInGroup(5, 0), 0);
    }

    private static void distance() {
        due.part("promise 18");
        NewsFlood x = Nets.line(5);
        for (int a = 0; a < 6; a++) {
            for (int b = 0; b < 6; b++) {
                due.is("distance(" + a + ", " + b + ")", x.distance(a, b), Math.abs(a - b));
            }
        }
        x.addLink(5, 0, 1);
        due.is("distance(0, 5), whatever the kind", x.distance(0, 5), 1);
        due.is("distance(0, 3)", x.distance(0, 3), 3);
        due.is("distance(1, 5)", x.distance(1, 5), 2);
        x.removeLink(2);
        due.is("distance(2, 3), round the ring", x.distance(2, 3), 5);
        x.removeLink(0);
        due.is("distance(1, 5)", x.distance(1, 5), -1);
        due.is("distance(5, 1)", x.distance(5, 1), -1);
        due.is("distance(1, 1)", x.distance(1, 1), 0);
        int[][] wrong = {{6, 0}, {-1, 0}, {0, 6}, {0, -1}, {6, 6}, {MIN, 0}, {MAX, 0}, {0, MIN}, {0, MAX}, {32, 32}};
        for (int[] w : wrong) {
            due.is("distance(" + w[0] + ", " + w[1] + ")", x.distance(w[0], w[1]), -2);
        }
    }

    private static void waiting() {
        due.part("promise 19");
        NewsFlood x = Nets.twelveLinks();
        due.is("waiting()", x.waiting(), 0);
        x.post(0, 0, 0);
        due.is("waiting()", x.waiting(), 5);
        x.post(3, 0, 0);
        due.is("waiting()", x.waiting(), 8);
        x.removeLink(0);
        due.is("waiting(), a transfer is dropped only when it is performed", x.waiting(), 8);
        x.round();
        // Article 0 is at 2, 3, 4, 5 (4, 2, 2, 2 on), article 1 at 0, 1, 2 (3, 3, 4 on).
        due.is("waiting()", x.waiting(), 20);
        x.settle();
        due.is("waiting()", x.waiting(), 0);
    }

    private static void total() {
        due.part("promise 20");
        NewsFlood x = Nets.line(1);
        int[] wrong = {6, -1, MIN, MAX};
        for (int w : wrong) {
            due.is("total(" + w + ")", x.total(w), -2);
        }
        x.addLink(1, 2, 1);
        x.addLink(0, 2, 1);
        x.post(0, 0, 5);
        x.settle();
        // 0 -> 1 and 0 -> 2 are performed, then 1 -> 2 and 2 -> 1 are offered only.
        due.is("total(0)", x.total(0), 2);
        due.is("total(1)", x.total(1), 3);
        due.is("total(2)", x.total(2), 0);
        x.setKind(1, 0);
        x.post(0, 0, 5);
        x.settle();
        due.is("total(0)", x.total(0), 6);
        due.is("total(1)", x.total(1), 4);
        due.is("total(2)", x.total(2), 2);
        x.postAction(1, 4, 1, 0);
        x.settle();
        due.is("total(5), forged at three hosts", x.total(5), 3);
        x.postAction(1, 5, 1, 0);
        x.settle();
        due.is("total(4), cancelled at three hosts", x.total(4), 3);
        x.post(0, 0, 0);
        x.setHistoryLimit(1);
        x.nextDay();
        x.settle();
        due.is("total(3), refused at two hosts", x.total(3), 2);
        due.is("undo()", x.undo(), 3);
        due.is("total(3) after undo", x.total(3), 0);
    }

    private static void day() {
        due.part("promise 21");
        NewsFlood x = new NewsFlood();
        for (int day = 0; day < 40; day++) {
            due.is("day()", x.day(), day);
            x.nextDay();
        }
        x.undo();
        due.is("day() after undo", x.day(), 39);
        x.round();
        x.settle();
        due.is("day(), a round takes no day", x.day(), 39);
    }

    private static void undo() {
        due.part("promise 22");
        NewsFlood x = new NewsFlood();
        due.is("undo()", x.undo(), -5);
        due.is("errorCount(-5)", x.errorCount(-5), 1);
        for (int i = 0; i < 6; i++) {
            x.nextDay();
        }
        due.is("undo()", x.undo(), 3);
        due.is("day()", x.day(), 5);
        due.is("undo()", x.undo(), 2);
        due.is("undo()", x.undo(), 1);
        due.is("day()", x.day(), 3);
        x.nextDay();
        x.nextDay();
        due.is("undo(), two more were saved", x.undo(), 2);
        due.is("undo()", x.undo(), 1);
        due.is("undo()", x.undo(), 0);
        due.is("day(), the oldest were dropped", x.day(), 2);
        due.is("undo()", x.undo(), -5);
        due.is("day(), an error changes nothing", x.day(), 2);
        due.is("errorCount(-5), not taken back", x.errorCount(-5), 2);

        x.post(0, 0, 0);
        x.post(6, 0, 0);
        x.isStored(0, 0);
        x.knownSince(0, 0);
        x.pendingCancels(0);
        x.holders(0);
        x.storedInGroup(0, 0);
        x.distance(0, 1);
        x.waiting();
        x.total(0);
        x.day();
        x.errorCount(-2);
        x.digest();
        due.is("undo(), only the post was saved", x.undo(), 0);
        due.is("errorCount(-2), not taken back", x.errorCount(-2), 1);
        due.is("holders(0)", x.holders(0), -2);
    }

    /** The digest before a call and after its undo differ in nothing, for every undoable method. */
    private static void undoTakesBackEveryUndoableCall() {
        for (int method = 0; method < 11; method++) {
            NewsFlood x = Nets.line(3);
            x.post(1, 0, 3);
            x.setExpiry(0, 1);
            x.round();
            x.postAction(5, 3, 1, 0);
            x.undo();
            long before = x.digest();
            change(x, method);
            due.isTrue("method " + method + " changes the digest", before != x.digest());
            due.is("undo() of method " + method, x.undo(), 3);
            due.is("digest() after undo of method " + method, x.digest(), before);
            due.is("settle() after undo of method " + method, x.settle(), 1);
            due.is("holders(0) after undo of method " + method, x.holders(0), 15);
        }
    }

    private static void change(NewsFlood x, int method) {
        switch (method) {
            case 0 -> x.addLink(2, 5, 1);
            case 1 -> x.removeLink(0);
            case 2 -> x.setKind(2, 1);
            case 3 -> x.setGroups(3, 0);
            case 4 -> x.setExpiry(0, 7);
            case 5 -> x.setHistoryLimit(1);
            case 6 -> x.post(5, 1, 1);
            case 7 -> x.postAction(3, 3, 2, 0);
            case 8 -> x.round();
            case 9 -> x.settle();
            default -> x.nextDay();
        }
    }

    private static void errorCount() {
        due.part("promise 23");
        NewsFlood x = Nets.line(1);
        due.is("errorCount(-6)", x.errorCount(-6), -2);
        due.is("errorCount(-1)", x.errorCount(-1), -2);
        due.is("errorCount(0)", x.errorCount(0), -2);
        due.is("errorCount(2)", x.errorCount(2), -2);
        due.is("errorCount(MIN)", x.errorCount(MIN), -2);
        due.is("errorCount(MAX)", x.errorCount(MAX), -2);
        due.is("errorCount(-2)", x.errorCount(-2), 6);
        due.is("errorCount(-2), to ask is no error", x.errorCount(-2), 6);
        x.addLink(1, 0, 0);
        due.is("errorCount(-3)", x.errorCount(-3), 1);
        due.is("errorCount(-4)", x.errorCount(-4), 0);
        x.undo();
        x.undo();
        x.undo();
        due.is("errorCount(-5)", x.errorCount(-5), 2);
        due.is("errorCount(-3)", x.errorCount(-3), 1);
        due.is("errorCount(-2)", x.errorCount(-2), 6);
        x.knownSince(0, 0);
        due.is("errorCount(-2), NONE is no error and OUT_OF_RANGE is one", x.errorCount(-2), 7);
        x.distance(0, 1);
        due.is("errorCount(-2)", x.errorCount(-2), 7);
    }

    private static void digest() {
        due.part("promise 24");
        NewsFlood x = new NewsFlood();
        long fresh = hash(0, 0, 0, 0, 0, 10, 5, 5, 5, 5, 0,
                15, 0, 15, 0, 15, 0, 15, 0, 15, 0, 15, 0, 0, 0, 0, 0, 0, 0, 0, 0);
        due.is("digest() of a new object", x.digest(), fresh);
        due.is("digest() again", x.digest(), fresh);
        x.undo();
        x.addLink(3, 1, 1);
        x.addLink(1, 3, 0);
        x.addLink(0, 1, 0);
        x.setGroups(2, 6);
        x.setExpiry(1, 7);
        x.setHistoryLimit(9);
        x.nextDay();
        x.post(1, 2, 8);
        x.postAction(4, 6, 2, 0);
        x.nextDay();
        x.round();
        x.total(6);
        x.day();
        due.is("digest() of a full state", x.digest(), hash(1, 1, 0, 1, 2, 9, 5, 7, 5, 5,
                3, 1, 1, 0, 1, 0,
                2, 2, 8, 1, 0, -1, 2, 6, 1, 2, 0,
                15, 0, 1, 2, 0, -1,
                15, 0, 1, 1, 0, -1,
                6, 0, 0, -1, 0, -1,
                15, 0, 1, 2, 0, -1,
                15, 1, 0, -1, 1, 1,
                15, 0, 0, -1, 0, -1,
                2, 1, 0, 0, 0, 0, 0, 4));
        x.post(0, 0, 0);
        due.is("digest() with waiting transfers", x.digest(), hash(1, 1, 0, 1, 2, 9, 5, 7, 5, 5,
                3, 1, 1, 0, 1, 0,
                3, 2, 8, 1, 0, -1, 2, 6, 1, 2, 0, 0, 0, 2, 0, -1,
                15, 0, 1, 2, 0, -1, 1, 2,
                15, 0, 1, 1, 0, -1, 0, -1,
                6, 0, 0, -1, 0, -1, 0, -1,
                15, 0, 1, 2, 0, -1, 0, -1,
                15, 1, 0, -1, 1, 1, 0, -1,
                15, 0, 0, -1, 0, -1, 0, -1,
                2, 1, 0, 0, 0, 0, 1, 4));
    }
}
