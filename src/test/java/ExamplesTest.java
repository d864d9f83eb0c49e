/** The five examples of the document. */
public final class ExamplesTest {
    private static final Due due = new Due();

    public static void main(String[] args) {
        spreading();
        cancelBeforeTarget();
        forgedCancel();
        errors();
        expiry();
        due.end();
    }

    private static void spreading() {
        due.part("example 1");
        NewsFlood x = new NewsFlood();
        due.is("addLink(0, 1, 0)", x.addLink(0, 1, 0), 0);
        due.is("addLink(1, 2, 1)", x.addLink(1, 2, 1), 1);
        due.is("post(0, 1, 5)", x.post(0, 1, 5), 0);
        due.is("round()", x.round(), 1);
        due.is("holders(0)", x.holders(0), 3);
        due.is("round()", x.round(), 1);
        due.is("holders(0)", x.holders(0), 7);
        due.is("total(0)", x.total(0), 2);
        due.is("total(1)", x.total(1), 1);
    }

    private static void cancelBeforeTarget() {
        due.part("example 2");
        NewsFlood x = new NewsFlood();
        due.is("addLink(0, 1, 0)", x.addLink(0, 1, 0), 0);
        due.is("post(0, 0, 4)", x.post(0, 0, 4), 0);
        due.is("postAction(1, 4, 1, 0)", x.postAction(1, 4, 1, 0), 1);
        due.is("pendingCancels(1)", x.pendingCancels(1), 1);
        due.is("settle()", x.settle(), 1);
        due.is("holders(0)", x.holders(0), 0);
        due.is("pendingCancels(1)", x.pendingCancels(1), 0);
        due.is("total(4)", x.total(4), 2);
    }

    private static void forgedCancel() {
        due.part("example 3");
        NewsFlood x = new NewsFlood();
        due.is("addLink(0, 1, 0)", x.addLink(0, 1, 0), 0);
        due.is("post(0, 0, 4)", x.post(0, 0, 4), 0);
        due.is("settle()", x.settle(), 1);
        due.is("postAction(1, 7, 1, 0)", x.postAction(1, 7, 1, 0), 1);
        due.is("total(5)", x.total(5), 1);
        due.is("holders(0)", x.holders(0), 3);
    }

    private static void errors() {
        due.part("example 4");
        NewsFlood x = new NewsFlood();
        due.is("addLink(0, 1, 0)", x.addLink(0, 1, 0), 0);
        due.is("addLink(1, 0, 1)", x.addLink(1, 0, 1), -3);
        due.is("post(0, 4, 0)", x.post(0, 4, 0), -2);
        due.is("errorCount(-3)", x.errorCount(-3), 1);
    }

    private static void expiry() {
        due.part("example 5");
        NewsFlood x = new NewsFlood();
        due.is("addLink(0, 1, 0)", x.addLink(0, 1, 0), 0);
        due.is("post(0, 0, 0)", x.post(0, 0, 0), 0);
        due.is("setExpiry(0, 1)", x.setExpiry(0, 1), 5);
        due.is("nextDay()", x.nextDay(), 1);
        due.is("isStored(0, 0)", x.isStored(0, 0), 0);
        due.is("knownSince(0, 0)", x.knownSince(0, 0), 0);
    }
}
