/** The rules that several promises share: the steps of an arrival, the order of a round, a new day. */
public final class RulesTest {
    private static final Due due = new Due();

    public static void main(String[] args) {
        duplicate();
        tooOld();
        pendingCancelAtArrival();
        pendingCancelOfAnotherAuthor();
        groupNotCarried();
        targetKnownButNotStored();
        targetStoredButForgotten();
        actionNotCarried();
        arrivalAfterForgetting();
        path();
        orderByArticle();
        orderBySender();
        linkAtTheTimeOfTheTransfer();
        askingAKnowingHost();
        cancelsStayOverDays();
        expiryCountsFromPosting();
        queueOverDays();
        mostTransfers();
        due.end();
    }

    private static void duplicate() {
        due.part("step (1)");
        NewsFlood x = Nets.links(0, 1, 0, 2, 1, 2);
        x.post(0, 0, 0);
        due.is("round()", x.round(), 2);
        due.is("total(2)", x.total(2), 0);
        due.is("round(), a duplicate is not stored again", x.round(), 0);
        due.is("total(2)", x.total(2), 2);
        due.is("total(0)", x.total(0), 4);
        due.is("waiting(), a duplicate is not sent on", x.waiting(), 0);
        NewsFlood y = Nets.links(0, 1, 0, 2, 1, 2);
        y.setHistoryLimit(1);
        y.post(0, 0, 0);
        y.round();
        y.setHistoryLimit(2);
        y.nextDay();
        y.setHistoryLimit(1);
        y.round();
        due.is("total(2), known comes before too old", y.total(2), 2);
        due.is("total(3)", y.total(3), 0);
    }

    private static void tooOld() {
        due.part("step (2)");
        NewsFlood x = Nets.links(0, 1);
        x.setHistoryLimit(3);
        x.post(0, 0, 0);
        x.nextDay();
        x.nextDay();
        due.is("round(), a day before the limit", x.round(), 1);
        x.undo();
        x.nextDay();
        due.is("round(), at the limit", x.round(), 0);
        due.is("total(3)", x.total(3), 1);
        due.is("total(0), the transfer counts", x.total(0), 1);
        due.is("knownSince(1, 0), not in the history", x.knownSince(1, 0), -1);
        due.is("holders(0)", x.holders(0), 1);
    }

    private static void pendingCancelAtArrival() {
        due.part("step (4)");
        NewsFlood x = Nets.links(0, 1, 1, 2);
        x.post(0, 0, 4);
        x.setGroups(1, 1);
        x.postAction(1, 4, 2, 0);
        due.is("pendingCancels(1)", x.pendingCancels(1), 1);
        due.is("round(), the cancel comes to 0 and 2, its target not to 1", x.round(), 2);
        due.is("pendingCancels(1), used up", x.pendingCancels(1), 0);
        due.is("pendingCancels(2)", x.pendingCancels(2), 1);
        due.is("pendingCancels(0)", x.pendingCancels(0), 0);
        due.is("knownSince(1, 0), it is in the history", x.knownSince(1, 0), 0);
        due.is("holders(0)", x.holders(0), 0);
        due.is("total(4)", x.total(4), 2);
        due.is("waiting(), the cancelled one is not sent on", x.waiting(), 0);

        NewsFlood y = Nets.links(0, 1);
        y.post(0, 0, 4);
        y.postAction(1, 4, 1, 0);
        y.setGroups(1, 0);
        y.round();
        due.is("pendingCancels(1), step (4) comes before step (5)", y.pendingCancels(1), 0);
        due.is("total(4)", y.total(4), 2);

        NewsFlood z = Nets.links(0, 1);
        z.post(0, 0, 4);
        z.postAction(1, 4, 1, 0);
        z.setHistoryLimit(1);
        z.nextDay();
        z.round();
        due.is("pendingCancels(1), step (2) comes before step (4)", z.pendingCancels(1), 1);
        due.is("total(3)", z.total(3), 2);
        due.is("total(4)", z.total(4), 0);
    }

    private static void pendingCancelOfAnotherAuthor() {
        due.part("step (4), another author");
        NewsFlood x = Nets.links(0, 1);
        x.post(0, 0, 4);
        x.postAction(1, 5, 1, 0);
        x.settle();
        due.is("holders(0)", x.holders(0), 3);
        due.is("pendingCancels(1), it stays", x.pendingCancels(1), 1);
        due.is("total(4)", x.total(4), 0);
        due.is("total(5), forged at host 0 alone", x.total(5), 1);

        NewsFlood y = Nets.links(0, 1);
        y.post(0, 0, 4);
        y.postAction(1, 5, 1, 0);
        y.postAction(1, 4, 1, 0);
        y.postAction(1, 3, 1, 0);
        y.settle();
        due.is("pendingCancels(1), only the author's own is used up", y.pendingCancels(1), 2);
        due.is("holders(0)", y.holders(0), 0);

        NewsFlood z = Nets.links(0, 1);
        z.post(2, 0, 4);
        z.post(0, 0, 4);
        z.postAction(1, 4, 1, 0);
        z.settle();
        due.is("holders(1), a cancel of another target", z.holders(1), 3);
        due.is("pendingCancels(1)", z.pendingCancels(1), 1);
    }

    private static void groupNotCarried() {
        due.part("step (5)");
        for (int group = 0; group < 4; group++) {
            NewsFlood x = Nets.links(0, 1, 1, 2);
            x.setGroups(1, 15 - (1 << group));
            x.post(0, group, 0);
            x.post(0, (group + 1) % 4, 0);
            due.is("round()", x.round(), 1);
            due.is("holders(0)", x.holders(0), 1);
            due.is("holders(1)", x.holders(1), 3);
            due.is("waiting()", x.waiting(), 1);
            due.is("knownSince(1, 0)", x.knownSince(1, 0), 0);
        }
    }

    private static void targetKnownButNotStored() {
        due.part("step (7), target in the history alone");
        NewsFlood x = new NewsFlood();
        x.setGroups(0, 14);
        x.post(0, 0, 4);
        x.setGroups(0, 15);
        x.postAction(0, 4, 1, 0);
        due.is("pendingCancels(0)", x.pendingCancels(0), 0);
        due.is("total(4)", x.total(4), 0);
        due.is("total(5)", x.total(5), 0);
        due.is("holders(1)", x.holders(1), 1);
        x.postAction(0, 9, 1, 0);
        due.is("total(5), not forged either", x.total(5), 0);
        due.is("pendingCancels(0)", x.pendingCancels(0), 0);
    }

    private static void targetStoredButForgotten() {
        due.part("step (7), target in the store alone");
        NewsFlood x = new NewsFlood();
        x.post(0, 0, 4);
        x.setHistoryLimit(1);
        x.nextDay();
        due.is("knownSince(0, 0)", x.knownSince(0, 0), -1);
        x.postAction(0, 5, 1, 0);
        due.is("total(5)", x.total(5), 1);
        due.is("pendingCancels(0)", x.pendingCancels(0), 0);
        x.postAction(0, 4, 1, 0);
        due.is("total(4)", x.total(4), 1);
        due.is("holders(0)", x.holders(0), 0);
        due.is("pendingCancels(0)", x.pendingCancels(0), 0);
        x.postAction(0, 4, 1, 0);
        due.is("pendingCancels(0), now it is in neither", x.pendingCancels(0), 1);
    }

    private static void actionNotCarried() {
        due.part("an action in a group that is not carried");
        NewsFlood x = Nets.links(0, 1);
        x.post(0, 0, 4);
        x.settle();
        x.setGroups(1, 14);
        x.postAction(0, 4, 1, 0);
        x.settle();
        due.is("holders(0), step (5) comes before step (7)", x.holders(0), 2);
        due.is("total(4)", x.total(4), 1);
    }

    /** A longer limit lets an article come again that a shorter one made the host forget. */
    private static void arrivalAfterForgetting() {
        due.part("an article that comes again");
        NewsFlood x = Nets.links(0, 1, 0, 2, 1, 2, 2, 3);
        x.post(0, 0, 0);
        due.is("round()", x.round(), 2);
        due.is("waiting(), 1 -> 2, 2 -> 1, 2 -> 3", x.waiting(), 3);
        x.setHistoryLimit(1);
        x.nextDay();
        x.setHistoryLimit(30);
        due.is("isStored(1, 0)", x.isStored(1, 0), 1);
        due.is("round(), step (6) at 1, 2 and 3", x.round(), 3);
        due.is("total(2)", x.total(2), 0);
        due.is("knownSince(0, 0)", x.knownSince(0, 0), -1);
        due.is("knownSince(1, 0)", x.knownSince(1, 0), 1);
        due.is("holders(0)", x.holders(0), 15);
        due.is("waiting(), 2 -> 3 with the path 0, 1, 2", x.waiting(), 1);
        due.is("round()", x.round(), 0);
        due.is("total(2)", x.total(2), 1);
    }

    private static void path() {
        due.part("path");
        NewsFlood x = Nets.links(0, 1);
        x.post(0, 0, 0);
        x.round();
        due.is("waiting(), no echo to the sender", x.waiting(), 0);
        NewsFlood y = Nets.links(0, 1, 1, 2, 2, 3, 3, 0);
        y.post(0, 0, 0);
        y.round();
        due.is("waiting(), 1 -> 2 and 3 -> 2", y.waiting(), 2);
        due.is("round()", y.round(), 1);
        // Host 2 got the copy of host 1 first: its path is 0, 1, 2.
        due.is("waiting(), 2 -> 3", y.waiting(), 1);
        y.round();
        due.is("total(2)", y.total(2), 2);
        due.is("waiting()", y.waiting(), 0);
        NewsFlood z = Nets.links(0, 1, 1, 2);
        z.post(0, 0, 0);
        z.round();
        z.addLink(2, 0, 0);
        z.round();
        due.is("waiting(), a link to a host of the path", z.waiting(), 0);
    }

    private static void orderByArticle() {
        due.part("order by article");
        // The target comes from the higher host, its cancel from the lower one, in the same round.
        NewsFlood x = Nets.links(0, 1, 1, 2);
        x.post(2, 0, 4);
        x.postAction(0, 4, 1, 0);
        due.is("pendingCancels(0)", x.pendingCancels(0), 1);
        due.is("round()", x.round(), 2);
        due.is("total(4), the cancel found the target in the store", x.total(4), 1);
        due.is("pendingCancels(1)", x.pendingCancels(1), 0);
        due.is("isStored(1, 0)", x.isStored(1, 0), 0);
        due.is("waiting(), so the target had been sent on", x.waiting(), 2);
    }

    private static void orderBySender() {
        due.part("order by sender");
        // Host 3 gets the article from 1 and from 2; the order decides what is asked and what comes twice.
        for (int kind = 0; kind < 2; kind++) {
            NewsFlood x = Nets.links(0, 2, 0, 1);
            x.addLink(3, 2, 1 - kind);
            x.addLink(1, 3, kind);
            x.post(0, 0, 0);
            x.round();
            due.is("round()", x.round(), 1);
            due.is("total(0)", x.total(0), kind == 0 ? 3 : 4);
            due.is("total(1)", x.total(1), 1);
            due.is("total(2)", x.total(2), kind);
            due.is("waiting(), 3 -> 2", x.waiting(), 1);
            x.removeLink(2);
            x.round();
            due.is("total(0), it was 3 -> 2 that waited", x.total(0), kind == 0 ? 3 : 4);
            due.is("total(1), it was 3 -> 2 that waited", x.total(1), 1);
        }
    }

    private static void linkAtTheTimeOfTheTransfer() {
        due.part("links change while transfers wait");
        NewsFlood x = Nets.links(0, 1);
        x.post(0, 0, 0);
        x.removeLink(0);
        due.is("round()", x.round(), 0);
        due.is("total(0), dropped", x.total(0), 0);
        due.is("total(1), dropped", x.total(1), 0);
        due.is("waiting()", x.waiting(), 0);
        due.is("knownSince(1, 0)", x.knownSince(1, 0), -1);
        NewsFlood y = Nets.links(0, 1);
        y.post(0, 0, 0);
        y.removeLink(0);
        y.addLink(1, 0, 1);
        due.is("round(), over another link", y.round(), 1);
        due.is("total(1)", y.total(1), 1);
        NewsFlood z = new NewsFlood();
        z.post(0, 0, 0);
        z.addLink(0, 1, 0);
        due.is("waiting(), a link that came later", z.waiting(), 0);
        due.is("settle()", z.settle(), 0);
    }

    private static void askingAKnowingHost() {
        due.part("ask");
        NewsFlood x = new NewsFlood();
        x.addLink(0, 1, 1);
        x.addLink(0, 2, 1);
        x.addLink(1, 2, 1);
        x.setGroups(2, 0);
        x.post(0, 0, 0);
        x.settle();
        due.is("total(1)", x.total(1), 3);
        due.is("total(0), a host without the group takes it once", x.total(0), 2);
        due.is("total(2)", x.total(2), 0);
        NewsFlood y = new NewsFlood();
        y.addLink(0, 1, 1);
        y.post(0, 0, 0);
        y.setHistoryLimit(1);
        y.nextDay();
        y.settle();
        due.is("total(1), too old", y.total(1), 1);
        due.is("total(0), too old", y.total(0), 1);
        due.is("total(3), too old", y.total(3), 1);
    }

    private static void cancelsStayOverDays() {
        due.part("pending cancels stay");
        NewsFlood x = Nets.links(0, 1);
        x.post(0, 0, 4);
        x.postAction(1, 4, 1, 0);
        x.setExpiry(0, 1);
        x.setHistoryLimit(1);
        x.nextDay();
        x.nextDay();
        due.is("pendingCancels(1)", x.pendingCancels(1), 1);
        x.setHistoryLimit(30);
        x.round();
        due.is("pendingCancels(1), and work", x.pendingCancels(1), 0);
        due.is("isStored(1, 0)", x.isStored(1, 0), 0);
    }

    private static void expiryCountsFromPosting() {
        due.part("store by day of posting, history by day of arrival");
        NewsFlood x = Nets.links(0, 1);
        x.setExpiry(0, 3);
        x.setHistoryLimit(3);
        x.post(0, 0, 0);
        x.nextDay();
        x.nextDay();
        x.round();
        due.is("knownSince(1, 0)", x.knownSince(1, 0), 2);
        due.is("nextDay(), from both stores", x.nextDay(), 2);
        due.is("knownSince(0, 0)", x.knownSince(0, 0), -1);
        due.is("knownSince(1, 0)", x.knownSince(1, 0), 2);
        x.nextDay();
        due.is("knownSince(1, 0)", x.knownSince(1, 0), 2);
        x.nextDay();
        due.is("knownSince(1, 0)", x.knownSince(1, 0), -1);
        NewsFlood y = Nets.links(0, 1);
        y.setExpiry(0, 1);
        y.post(0, 0, 0);
        y.nextDay();
        due.is("round(), an expired article arrives all the same", y.round(), 1);
        due.is("holders(0)", y.holders(0), 2);
        due.is("nextDay()", y.nextDay(), 1);
    }

    private static void queueOverDays() {
        due.part("the queue stays over days");
        NewsFlood x = Nets.links(0, 1, 1, 2);
        x.post(0, 0, 0);
        x.postAction(0, 0, 1, 0);
        x.nextDay();
        due.is("waiting(), a cancelled article is under way too", x.waiting(), 2);
        due.is("round()", x.round(), 2);
        due.is("holders(0)", x.holders(0), 0);
        due.is("total(4)", x.total(4), 2);
    }

    /** All thirty articles posted at a host with five neighbours: as many transfers as the queue can get. */
    private static void mostTransfers() {
        due.part("the longest queue");
        NewsFlood x = Nets.links(0, 1, 0, 2, 0, 3, 0, 4, 0, 5, 1, 2, 1, 3, 1, 4, 1, 5, 2, 3, 2, 4, 2, 5);
        for (int i = 0; i < 30; i++) {
            x.post(0, i % 4, i % 10);
        }
        due.is("waiting()", x.waiting(), 150);
        due.is("round()", x.round(), 150);
        due.is("waiting()", x.waiting(), 420);
        due.is("settle()", x.settle(), 1);
        due.is("total(0)", x.total(0), 570);
        due.is("total(2)", x.total(2), 420);
        due.is("undo()", x.undo(), 3);
        due.is("waiting()", x.waiting(), 420);
    }
}
