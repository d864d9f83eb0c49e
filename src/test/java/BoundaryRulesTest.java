import java.util.function.Consumer;

/**
 * Each sentence of the document's section 'Description' (and of 'What it is') that names a boundary case,
 * with a test of its own, in the document's order. The sentence stands in quotes as the part's name.
 */
public final class BoundaryRulesTest {
    private static final Due due = new Due();

    public static void main(String[] args) {
        calls();
        hostsAndLinks();
        groupsAndArticles();
        copies();
        knownArticles();
        oldArticles();
        historyDay();
        pendingCancels();
        groupNotCarried();
        store();
        actions();
        transfers();
        rounds();
        orderOfARound();
        linksInARound();
        newDay();
        undo();
        due.end();
    }

    private static void calls() {
        due.part("\"An object is used for at most 512 calls after it has been made\"");
        NewsFlood x = new NewsFlood();
        NewsFlood y = new NewsFlood();
        NewsFlood z = new NewsFlood();
        for (int call = 1; call < 512; call++) {
            due.is("nextDay(), call " + call, x.nextDay(), 0);
            due.is("undo(), call " + call, y.undo(), -5);
            due.is("settle(), call " + call, z.settle(), 0);
        }
        due.is("day() as the last call", x.day(), 511);
        due.is("errorCount(-5) as the last call", y.errorCount(-5), 511);
        due.is("undo() as the last call", z.undo(), 3);
    }

    private static void hostsAndLinks() {
        due.part("\"There are 6 hosts, numbered 0 to 5\"");
        Calls.range(due, "addLink, a", NewsFlood::new, (x, v) -> x.addLink(v, v == 3 ? 2 : 3, 0), 0, 5);
        Calls.range(due, "addLink, b", NewsFlood::new, (x, v) -> x.addLink(v == 3 ? 2 : 3, v, 0), 0, 5);
        Calls.range(due, "setGroups, host", Nets::busy, (x, v) -> x.setGroups(v, 9), 0, 5);
        Calls.range(due, "post, host", Nets::busy, (x, v) -> x.post(v, 0, 0), 0, 5);
        Calls.range(due, "postAction, host", Nets::busy, (x, v) -> x.postAction(v, 0, 1, 0), 0, 5);
        Calls.range(due, "isStored, host", Nets::busy, (x, v) -> x.isStored(v, 0), 0, 5);
        Calls.range(due, "knownSince, host", Nets::busy, (x, v) -> x.knownSince(v, 0), 0, 5);
        Calls.range(due, "pendingCancels, host", Nets::busy, (x, v) -> x.pendingCancels(v), 0, 5);
        Calls.range(due, "storedInGroup, host", Nets::busy, (x, v) -> x.storedInGroup(v, 0), 0, 5);
        Calls.range(due, "distance, a", Nets::busy, (x, v) -> x.distance(v, 0), 0, 5);
        Calls.range(due, "distance, b", Nets::busy, (x, v) -> x.distance(0, v), 0, 5);
        Calls.range(due, "distance, a and b", Nets::busy, (x, v) -> x.distance(v, v), 0, 5);

        due.part("\"at most 12 links, numbered from 0 in the order in which they were added\"");
        NewsFlood twelve = new NewsFlood();
        for (int i = 0; i < 12; i++) {
            due.is("addLink, " + i, twelve.addLink(Nets.PAIRS[i][1], Nets.PAIRS[i][0], i % 2), i);
        }
        for (int i = 0; i < 12; i++) {
            due.is("setKind(" + i + ", 0)", twelve.setKind(i, 0), i % 2);
        }
        due.is("addLink, the 13th", twelve.addLink(3, 4, 0), -4);
        due.is("removeLink(12)", twelve.removeLink(12), -2);

        due.part("\"A link connects two different hosts in both directions\"");
        for (int a = 0; a < 6; a++) {
            int same = a;
            Calls.refused(due, "addLink(" + a + ", " + a + ", 0)", Nets::busy, x -> x.addLink(same, same, 0), -2);
            for (int b = 0; b < 6; b++) {
                if (a != b) {
                    bothDirections(a, b);
                }
            }
        }

        due.part("\"A link has a kind: 0 = push (articles are sent without asking), 1 = ask\"");
        Calls.range(due, "addLink, kind", Nets::busy, (x, v) -> x.addLink(4, 5, v), 0, 1);
        Calls.range(due, "setKind, kind", Nets::busy, (x, v) -> x.setKind(2, v), 0, 1);
        for (int kind = 0; kind < 2; kind++) {
            NewsFlood x = new NewsFlood();
            x.addLink(0, 1, kind);
            x.post(0, 0, 0);
            due.is("round() over kind " + kind, x.round(), 1);
            due.is("total(1), offers over kind " + kind, x.total(1), kind);
        }
    }

    /** One link, in the order in which it is given; then no second one between the same hosts. */
    private static void bothDirections(int a, int b) {
        due.part("\"A link connects two different hosts in both directions\"");
        String ends = "(" + a + ", " + b + ", 0)";
        NewsFlood x = new NewsFlood();
        due.is("addLink" + ends, x.addLink(a, b, 0), 0);
        due.is("distance after addLink" + ends, x.distance(a, b), 1);
        due.is("distance back after addLink" + ends, x.distance(b, a), 1);
        x.post(a, 0, 0);
        due.is("round() after addLink" + ends, x.round(), 1);
        x.post(b, 0, 0);
        due.is("round() back after addLink" + ends, x.round(), 1);

        due.part("\"at most one link connects the same two hosts\"");
        due.is("addLink again", x.addLink(a, b, 0), -3);
        due.is("addLink again, back", x.addLink(b, a, 0), -3);
        due.is("addLink again, the other kind", x.addLink(a, b, 1), -3);
        due.is("addLink again, back, the other kind", x.addLink(b, a, 1), -3);
        x.removeLink(0);
        due.is("addLink after removeLink", x.addLink(b, a, 1), 0);
        due.is("addLink again", x.addLink(a, b, 1), -3);
    }

    private static void groupsAndArticles() {
        due.part("\"There are 4 groups, numbered 0 to 3.\"");
        Calls.range(due, "setExpiry, group", Nets::busy, (x, v) -> x.setExpiry(v, 9), 0, 3);
        Calls.range(due, "post, group", Nets::busy, (x, v) -> x.post(0, v, 0), 0, 3);
        Calls.range(due, "storedInGroup, group", Nets::busy, (x, v) -> x.storedInGroup(0, v), 0, 3);

        due.part("\"Each host carries a set of groups (initially all four).\"");
        NewsFlood hosts = new NewsFlood();
        for (int i = 0; i < 24; i++) {
            hosts.post(i / 4, i % 4, 0);
            due.is("storedInGroup(" + i / 4 + ", " + i % 4 + ")", hosts.storedInGroup(i / 4, i % 4), 1);
        }

        due.part("\"a number (0, 1, 2, .. in the order of posting)\"");
        NewsFlood numbers = new NewsFlood();
        due.is("post", numbers.post(5, 3, 9), 0);
        due.is("post, refused", numbers.post(6, 3, 9), -2);
        due.is("postAction", numbers.postAction(0, 9, 2, 0), 1);
        due.is("postAction, refused", numbers.postAction(0, 9, 2, 2), -2);
        due.is("post", numbers.post(0, 0, 0), 2);
        due.is("undo()", numbers.undo(), 2);
        due.is("postAction, the number is free again", numbers.postAction(1, 1, 1, 1), 2);

        due.part("\"an author (0 to 9)\"");
        Calls.range(due, "post, author", Nets::busy, (x, v) -> x.post(0, 0, v), 0, 9);
        Calls.range(due, "postAction, author", Nets::busy, (x, v) -> x.postAction(0, v, 1, 0), 0, 9);

        due.part("\"an action: 0 = none, 1 = it cancels a target article, 2 = it supersedes a target article\"");
        Calls.range(due, "postAction, action", Nets::busy, (x, v) -> x.postAction(0, 0, v, 0), 1, 2);

        due.part("\"The target is the number of an earlier article.\"");
        Calls.range(due, "postAction, target, without articles", NewsFlood::new, (x, v) -> x.postAction(0, 0, 1, v), 0, -1);
        Calls.range(due, "postAction, target, with three", Nets::busy, (x, v) -> x.postAction(0, 0, 2, v), 0, 2);
        Calls.range(due, "postAction, target, with thirty", Nets::full, (x, v) -> x.postAction(0, 0, 1, v), 0, 29);

        due.part("\"At most 30 articles can be posted.\"");
        NewsFlood thirty = new NewsFlood();
        for (int i = 0; i < 30; i++) {
            due.is("article " + i, i % 3 == 1 ? thirty.postAction(i % 6, 0, 1, i - 1) : thirty.post(i % 6, 0, 0), i);
        }
        due.is("post, the 31st", thirty.post(0, 0, 0), -4);
        due.is("postAction, the 31st", thirty.postAction(0, 0, 1, 29), -4);
        thirty.setExpiry(0, 1);
        due.is("nextDay(), all leave the stores", thirty.nextDay(), 30);
        due.is("post, an article that has left was posted all the same", thirty.post(0, 0, 0), -4);
    }

    private static void copies() {
        due.part("\"a path: the set of hosts that the copy has passed, including the host at which it is\"");
        NewsFlood line = Nets.line(5);
        line.post(0, 0, 0);
        for (int host = 1; host < 6; host++) {
            due.is("round() to host " + host, line.round(), 1);
            due.is("waiting(), one ahead and none back", line.waiting(), host < 5 ? 1 : 0);
        }
        due.is("total(2)", line.total(2), 0);
        NewsFlood triangle = Nets.links(0, 1, 1, 2);
        triangle.post(0, 0, 0);
        triangle.round();
        triangle.addLink(2, 0, 0);
        triangle.round();
        due.is("waiting(), not to the first host of the path either", triangle.waiting(), 0);

        due.part("\"A pending cancel is a pair of a target number and an author.\"");
        NewsFlood x = Nets.thirtyArticles();
        x.undo();
        x.undo();
        due.is("postAction(1, 9, 1, 0)", x.postAction(1, 9, 1, 0), 28);
        due.is("postAction(1, 9, 1, 24)", x.postAction(1, 9, 1, 24), 29);
        due.is("pendingCancels(1), one author and two targets", x.pendingCancels(1), 2);
        x.undo();
        x.postAction(1, 0, 1, 0);
        due.is("pendingCancels(1), one target and two authors", x.pendingCancels(1), 2);
    }

    private static void knownArticles() {
        due.part("\"(1) If the article's number is in the history of the host\"");
        NewsFlood x = Nets.links(0, 1, 0, 2, 1, 2);
        x.setGroups(2, 14);
        x.setExpiry(0, 1);
        x.post(0, 0, 0);
        x.round();
        due.is("waiting(), 1 -> 2 alone", x.waiting(), 1);
        x.nextDay();
        due.is("round(), host 2 knows it and does not store it", x.round(), 0);
        due.is("total(2)", x.total(2), 1);
        due.is("knownSince(2, 0), the day stays", x.knownSince(2, 0), 0);
        due.is("waiting(), the arrival ends", x.waiting(), 0);
        NewsFlood y = Nets.links(0, 1, 0, 2, 1, 2);
        y.setExpiry(0, 1);
        y.post(0, 0, 0);
        y.round();
        due.is("nextDay(), it leaves three stores", y.nextDay(), 3);
        y.setHistoryLimit(1);
        due.is("round(), known in the history, too old, and not stored again", y.round(), 0);
        due.is("holders(0)", y.holders(0), 0);
        due.is("total(2), two duplicates", y.total(2), 2);
        due.is("total(3), the arrival ended before step (2)", y.total(3), 0);
    }

    private static void oldArticles() {
        due.part("\"(2) .. (the present day minus the day of posting is at least the history limit)\"");
        int[] limits = {1, 2, 3, 10, 29, 30};
        for (int limit : limits) {
            NewsFlood x = Nets.line(2);
            x.setHistoryLimit(limit);
            x.nextDay();
            x.nextDay();
            x.post(0, 0, 4);
            for (int age = 1; age < limit; age++) {
                x.nextDay();
            }
            due.is("round() at age limit - 1, limit " + limit, x.round(), 1);
            due.is("total(3)", x.total(3), 0);
            x.undo();
            x.nextDay();
            due.is("round() at age limit, limit " + limit, x.round(), 0);
            due.is("total(3)", x.total(3), 1);
            due.is("total(0), the transfer was performed", x.total(0), 1);
            due.is("knownSince(1, 0), the arrival ended before step (3)", x.knownSince(1, 0), -1);
            due.is("waiting()", x.waiting(), 0);
        }
        NewsFlood late = Nets.links(0, 1);
        late.setHistoryLimit(3);
        late.post(0, 0, 4);
        for (int day = 0; day < 5; day++) {
            late.nextDay();
        }
        due.is("round(), long after the limit", late.round(), 0);
        due.is("total(3)", late.total(3), 1);
        late.undo();
        late.setHistoryLimit(6);
        due.is("round(), the limit of the present day counts", late.round(), 1);
        NewsFlood slow = Nets.line(2);
        slow.setHistoryLimit(2);
        slow.post(0, 0, 4);
        slow.nextDay();
        slow.round();
        slow.nextDay();
        due.is("knownSince(1, 0), host 1 knows it for a day", slow.knownSince(1, 0), 1);
        due.is("round(), the day of posting counts", slow.round(), 0);
        due.is("total(3)", slow.total(3), 1);
    }

    private static void historyDay() {
        due.part("\"(3) The article's number comes into the history with the present day.\"");
        NewsFlood x = Nets.links(0, 1, 0, 2, 0, 3);
        x.setGroups(2, 0);
        x.post(0, 0, 4);
        x.postAction(3, 4, 1, 0);
        x.nextDay();
        x.nextDay();
        x.round();
        due.is("knownSince(0, 0), posted", x.knownSince(0, 0), 0);
        due.is("knownSince(1, 0), stored", x.knownSince(1, 0), 2);
        due.is("knownSince(2, 0), not carried", x.knownSince(2, 0), 2);
        due.is("knownSince(3, 0), cancelled", x.knownSince(3, 0), 2);
        due.is("knownSince(4, 0), not arrived", x.knownSince(4, 0), -1);
        NewsFlood y = new NewsFlood();
        y.setGroups(0, 0);
        y.nextDay();
        y.post(0, 0, 4);
        due.is("knownSince(0, 0), posted where it is not carried", y.knownSince(0, 0), 1);
    }

    private static void pendingCancels() {
        due.part("\"(4) If the host has a pending cancel whose target is the article and whose author is the author\"");
        NewsFlood x = Nets.links(0, 1, 1, 2);
        x.post(0, 0, 4);
        x.post(0, 0, 4);
        x.postAction(1, 4, 1, 0);
        x.postAction(1, 3, 1, 0);
        x.postAction(1, 5, 1, 1);
        due.is("pendingCancels(1)", x.pendingCancels(1), 3);
        due.is("round(), article 1 at host 1 and three cancels at 0 and 2", x.round(), 7);
        due.is("isStored(1, 0), target and author are those of the cancel", x.isStored(1, 0), 0);
        due.is("isStored(1, 1), the author is another one", x.isStored(1, 1), 1);
        due.is("pendingCancels(1), that one alone is removed", x.pendingCancels(1), 2);
        due.is("total(4), at host 1 by step (4) and at host 0 by step (7)", x.total(4), 2);
        due.is("knownSince(1, 0)", x.knownSince(1, 0), 0);
        due.is("waiting(), article 1 goes on to 2, article 0 does not", x.waiting(), 1);

        NewsFlood ends = Nets.links(0, 1, 1, 2);
        ends.post(3, 0, 7);
        ends.postAction(0, 4, 1, 0);
        ends.postAction(1, 4, 2, 1);
        due.is("pendingCancels(1), a cancel of a cancel", ends.pendingCancels(1), 1);
        ends.round();
        due.is("pendingCancels(1), the cancelled cancel does not come to step (7)", ends.pendingCancels(1), 0);
        due.is("isStored(1, 1)", ends.isStored(1, 1), 0);

        NewsFlood order = Nets.links(0, 1);
        order.post(0, 0, 4);
        order.postAction(1, 4, 1, 0);
        order.setGroups(1, 0);
        order.round();
        due.is("pendingCancels(1), also where the group is not carried any more", order.pendingCancels(1), 0);
        due.is("total(4)", order.total(4), 2);

        NewsFlood again = Nets.links(0, 1, 1, 2);
        again.post(0, 0, 4);
        again.postAction(1, 4, 1, 0);
        again.round();
        again.setHistoryLimit(1);
        again.nextDay();
        again.setHistoryLimit(30);
        again.postAction(1, 4, 1, 0);
        due.is("pendingCancels(1), a second one after the number was forgotten", again.pendingCancels(1), 1);
    }

    private static void groupNotCarried() {
        due.part("\"(5) If the host does not carry the group of the article, the arrival ends.\"");
        for (int group = 0; group < 4; group++) {
            NewsFlood x = Nets.line(2);
            x.post(2, group, 4);
            x.settle();
            x.setGroups(1, 15 - (1 << group));
            x.postAction(0, 4, 1, 0);
            due.is("round(), group " + group, x.round(), 0);
            due.is("isStored(1, 1)", x.isStored(1, 1), 0);
            due.is("isStored(1, 0), no step (7)", x.isStored(1, 0), 1);
            due.is("waiting(), no step (8)", x.waiting(), 0);
            x.setGroups(1, 1 << group);
            x.postAction(0, 4, 1, 0);
            due.is("round(), the group alone is carried", x.round(), 1);
            due.is("isStored(1, 0)", x.isStored(1, 0), 0);
            due.is("waiting()", x.waiting(), 1);
        }
    }

    private static void store() {
        due.part("\"(6) The article comes into the store.\"");
        NewsFlood x = Nets.links(0, 1);
        x.setExpiry(0, 1);
        x.post(0, 0, 0);
        due.is("isStored(0, 0), posted", x.isStored(0, 0), 1);
        for (int day = 0; day < 9; day++) {
            x.nextDay();
        }
        due.is("round(), older than the expiry limit", x.round(), 1);
        due.is("isStored(1, 0), it stays until a new day", x.isStored(1, 0), 1);
        due.is("nextDay()", x.nextDay(), 1);
    }

    private static void actions() {
        due.part("\"(7) If the action of the article is not 0\"");
        NewsFlood none = new NewsFlood();
        none.post(0, 0, 4);
        none.post(0, 0, 4);
        due.is("holders(0), an article without an action", none.holders(0), 1);
        due.is("total(4)", none.total(4), 0);
        for (int action = 1; action <= 2; action++) {
            act(action);
        }
    }

    private static void act(int action) {
        due.part("\"if the target is in the store of the host and has the same author as the article\", action " + action);
        NewsFlood own = new NewsFlood();
        own.post(0, 0, 9);
        own.postAction(0, 9, action, 0);
        due.is("holders(0)", own.holders(0), 0);
        due.is("holders(1), the action itself stays", own.holders(1), 1);
        due.is("total(4)", own.total(4), 1);
        due.is("total(5)", own.total(5), 0);
        due.is("pendingCancels(0)", own.pendingCancels(0), 0);
        due.is("knownSince(0, 0), the number stays in the history", own.knownSince(0, 0), 0);

        due.part("\"if the target is in the store with another author\", action " + action);
        NewsFlood forged = new NewsFlood();
        forged.post(0, 0, 0);
        forged.postAction(0, 9, action, 0);
        due.is("holders(0)", forged.holders(0), 1);
        due.is("holders(1), the forged one is stored too", forged.holders(1), 1);
        due.is("total(4)", forged.total(4), 0);
        due.is("total(5)", forged.total(5), 1);
        due.is("pendingCancels(0)", forged.pendingCancels(0), 0);

        due.part("\"if the target is in the store\", but not in the history any more, action " + action);
        NewsFlood forgotten = new NewsFlood();
        forgotten.setHistoryLimit(1);
        forgotten.post(0, 0, 9);
        forgotten.nextDay();
        forgotten.postAction(0, 8, action, 0);
        due.is("total(5)", forgotten.total(5), 1);
        forgotten.postAction(0, 9, action, 0);
        due.is("total(4)", forgotten.total(4), 1);
        due.is("isStored(0, 0)", forgotten.isStored(0, 0), 0);
        due.is("pendingCancels(0)", forgotten.pendingCancels(0), 0);

        due.part("\"if the target is not in the store but in the history, nothing happens\", action " + action);
        NewsFlood gone = new NewsFlood();
        gone.setExpiry(0, 1);
        gone.post(0, 0, 9);
        gone.nextDay();
        gone.postAction(0, 9, action, 0);
        gone.postAction(0, 8, action, 0);
        due.is("pendingCancels(0)", gone.pendingCancels(0), 0);
        due.is("total(4)", gone.total(4), 0);
        due.is("total(5)", gone.total(5), 0);

        due.part("\"if it is in neither, a pending cancel .. comes into the set of the host\", action " + action);
        NewsFlood neither = new NewsFlood();
        neither.post(0, 0, 9);
        neither.postAction(5, 9, action, 0);
        due.is("pendingCancels(5), never known", neither.pendingCancels(5), 1);
        due.is("total(4)", neither.total(4), 0);
        due.is("total(5)", neither.total(5), 0);
        neither.setExpiry(0, 1);
        neither.setHistoryLimit(1);
        neither.nextDay();
        neither.postAction(0, 9, action, 0);
        due.is("pendingCancels(0), forgotten", neither.pendingCancels(0), 1);

        due.part("\"(it is a set: equal pairs exist once)\", action " + action);
        neither.postAction(5, 9, action, 0);
        neither.postAction(5, 9, 3 - action, 0);
        due.is("pendingCancels(5)", neither.pendingCancels(5), 1);
        neither.postAction(5, 8, action, 0);
        due.is("pendingCancels(5), another author", neither.pendingCancels(5), 2);
    }

    private static void transfers() {
        due.part("\"(8) For each neighbour of the host that is not in the path of the copy\"");
        for (int neighbours = 0; neighbours < 6; neighbours++) {
            NewsFlood star = new NewsFlood();
            for (int host = 1; host <= neighbours; host++) {
                star.addLink(host % 2 == 0 ? 0 : host, host % 2 == 0 ? host : 0, host % 2);
            }
            star.post(0, 0, 0);
            due.is("waiting() with " + neighbours + " neighbours", star.waiting(), neighbours);
            due.is("round()", star.round(), neighbours);
            due.is("waiting(), all neighbours are in the path", star.waiting(), 0);
        }
        NewsFlood later = new NewsFlood();
        later.post(0, 0, 0);
        later.addLink(0, 1, 0);
        due.is("waiting(), a neighbour that came after the arrival", later.waiting(), 0);
    }

    private static void rounds() {
        due.part("\"All transfers that are in the queue when the round begins are taken out\"");
        NewsFlood x = Nets.links(0, 1, 2, 3);
        due.is("round(), none in the queue", x.round(), 0);
        x.post(0, 0, 0);
        x.post(2, 0, 0);
        x.removeLink(0);
        due.is("waiting()", x.waiting(), 2);
        due.is("round()", x.round(), 1);
        due.is("waiting(), the dropped one is out too", x.waiting(), 0);
        x.addLink(0, 1, 0);
        due.is("round(), the dropped one does not come back", x.round(), 0);

        due.part("\"Transfers that arise during the round wait for the next round.\"");
        NewsFlood up = Nets.line(5);
        up.post(0, 0, 0);
        due.is("round() upwards", up.round(), 1);
        due.is("holders(0)", up.holders(0), 3);
        due.is("waiting()", up.waiting(), 1);
        NewsFlood down = Nets.line(5);
        down.post(5, 0, 0);
        due.is("round() downwards", down.round(), 1);
        due.is("holders(0)", down.holders(0), 48);
        due.is("waiting()", down.waiting(), 1);
    }

    private static void orderOfARound() {
        due.part("\"in this order: by article number\"");
        // Host 1 gets the target from host 2 and its cancel from host 0; the target has the lower number.
        NewsFlood article = Nets.links(0, 1, 1, 2);
        article.post(2, 0, 4);
        article.postAction(0, 4, 1, 0);
        article.round();
        due.is("pendingCancels(1)", article.pendingCancels(1), 0);
        due.is("waiting(), the target was stored and sent on before it was cancelled", article.waiting(), 2);
        // Posted in the other order of hosts, the order of the numbers is still what counts.
        NewsFlood turned = Nets.links(0, 1, 1, 2);
        turned.post(0, 0, 4);
        turned.postAction(2, 4, 1, 0);
        turned.round();
        due.is("waiting()", turned.waiting(), 2);

        due.part("\"then by sending host\"");
        // Host 5 gets the article from 1 and 4 in one round; the path of the first copy is the one that counts.
        NewsFlood sender = Nets.links(0, 4, 0, 1, 4, 5, 1, 5);
        sender.post(0, 0, 0);
        sender.round();
        due.is("round()", sender.round(), 1);
        due.is("total(2)", sender.total(2), 1);
        due.is("waiting(), 5 -> 4", sender.waiting(), 1);
        sender.removeLink(2);
        sender.round();
        due.is("total(0), 5 -> 4 was dropped, it was not 5 -> 1", sender.total(0), 4);
    }

    private static void linksInARound() {
        due.part("\"A transfer whose two hosts are not connected by a link when it is performed is dropped\"");
        NewsFlood dropped = Nets.links(0, 1, 1, 2, 0, 2);
        dropped.post(0, 0, 0);
        dropped.removeLink(0);
        due.is("round(), the way round over 2 is no link", dropped.round(), 1);
        due.is("holders(0)", dropped.holders(0), 5);
        due.is("total(0)", dropped.total(0), 1);
        due.is("total(1)", dropped.total(1), 0);
        due.is("knownSince(1, 0)", dropped.knownSince(1, 0), -1);

        due.part("\"(it does not matter whether the link is the one that connected them when ..)\"");
        NewsFlood other = Nets.links(0, 1);
        other.post(0, 0, 0);
        other.removeLink(0);
        other.addLink(2, 3, 0);
        other.addLink(1, 0, 0);
        due.is("round(), another link with another number", other.round(), 1);
        due.is("total(0)", other.total(0), 1);

        due.part("\"On a push link the number of transfers increases by 1\"");
        NewsFlood push = Nets.links(0, 1, 0, 2, 1, 2);
        push.post(0, 0, 0);
        push.settle();
        due.is("total(0), also where the number is known", push.total(0), 4);
        due.is("total(1)", push.total(1), 0);
        due.is("total(2)", push.total(2), 2);

        due.part("\"On an ask link .. if the number is in the history of the receiving host, nothing else happens\"");
        NewsFlood ask = Nets.links(0, 1, 0, 2, 1, 2);
        ask.setKind(2, 1);
        ask.post(0, 0, 0);
        ask.settle();
        due.is("total(0)", ask.total(0), 2);
        due.is("total(1)", ask.total(1), 2);
        due.is("total(2), no duplicate", ask.total(2), 0);
        NewsFlood notStored = new NewsFlood();
        notStored.addLink(0, 1, 0);
        notStored.addLink(0, 2, 0);
        notStored.addLink(1, 2, 1);
        notStored.setGroups(2, 0);
        notStored.post(0, 0, 0);
        notStored.settle();
        due.is("total(1)", notStored.total(1), 1);
        due.is("total(0), known but not stored", notStored.total(0), 2);
        due.is("total(2)", notStored.total(2), 0);
        NewsFlood notKnown = Nets.links(0, 1, 0, 2, 1, 2);
        notKnown.post(0, 0, 0);
        notKnown.round();
        notKnown.setHistoryLimit(1);
        notKnown.nextDay();
        notKnown.setHistoryLimit(9);
        notKnown.setKind(2, 1);
        notKnown.round();
        due.is("total(1)", notKnown.total(1), 2);
        due.is("total(0), stored but not known any more", notKnown.total(0), 4);

        due.part("\"otherwise the number of transfers increases by 1, and the article arrives there\"");
        NewsFlood taken = new NewsFlood();
        taken.addLink(0, 1, 1);
        taken.setGroups(1, 0);
        taken.setHistoryLimit(1);
        taken.post(0, 0, 0);
        due.is("round(), a host that does not carry the group takes it", taken.round(), 0);
        due.is("total(1)", taken.total(1), 1);
        due.is("total(0)", taken.total(0), 1);
        due.is("knownSince(1, 0)", taken.knownSince(1, 0), 0);
        taken.undo();
        taken.nextDay();
        due.is("round(), a host for which it is too old takes it", taken.round(), 0);
        due.is("total(1)", taken.total(1), 1);
        due.is("total(0)", taken.total(0), 1);
        due.is("total(3)", taken.total(3), 1);

        due.part("\"The kind of the link is the one that it has when the transfer is performed.\"");
        for (int kind = 0; kind < 2; kind++) {
            NewsFlood x = new NewsFlood();
            x.addLink(0, 1, 1 - kind);
            x.post(0, 0, 0);
            x.setKind(0, kind);
            x.round();
            due.is("total(1), set to kind " + kind, x.total(1), kind);
            due.is("total(0)", x.total(0), 1);
        }
    }

    private static void newDay() {
        due.part("\"each article leaves the store if .. is at least the expiry limit of its group\"");
        int[] limits = {1, 2, 5, 29, 30};
        for (int limit : limits) {
            for (int group = 0; group < 4; group++) {
                expire(limit, group);
            }
            forget(limit);
        }
        NewsFlood shorter = new NewsFlood();
        shorter.post(0, 0, 0);
        for (int day = 0; day < 4; day++) {
            shorter.nextDay();
        }
        shorter.setExpiry(0, 2);
        due.is("isStored(0, 0), a shorter limit works on a new day", shorter.isStored(0, 0), 1);
        due.is("nextDay(), the age is above the limit", shorter.nextDay(), 1);

        due.part("\"Then, at each host\"");
        NewsFlood hosts = Nets.line(5);
        hosts.setExpiry(1, 1);
        hosts.setHistoryLimit(1);
        hosts.post(0, 1, 0);
        hosts.settle();
        due.is("nextDay()", hosts.nextDay(), 6);
        for (int host = 0; host < 6; host++) {
            due.is("knownSince(" + host + ", 0)", hosts.knownSince(host, 0), -1);
            due.is("isStored(" + host + ", 0)", hosts.isStored(host, 0), 0);
        }

        due.part("\"Pending cancels stay.\"");
        NewsFlood cancels = new NewsFlood();
        cancels.setExpiry(0, 1);
        cancels.setHistoryLimit(1);
        cancels.post(0, 0, 0);
        cancels.postAction(5, 9, 1, 0);
        for (int day = 0; day < 40; day++) {
            cancels.nextDay();
        }
        due.is("pendingCancels(5)", cancels.pendingCancels(5), 1);
        NewsFlood known = Nets.links(0, 1);
        known.setExpiry(0, 1);
        known.setHistoryLimit(1);
        known.post(0, 0, 4);
        known.postAction(1, 5, 1, 0);
        known.settle();
        due.is("isStored(1, 0), the cancel is of another author", known.isStored(1, 0), 1);
        known.nextDay();
        due.is("knownSince(1, 0)", known.knownSince(1, 0), -1);
        due.is("pendingCancels(1), though its target left store and history", known.pendingCancels(1), 1);
    }

    /** Two articles, the second a day younger, in a group whose limit is set; the other groups have another. */
    private static void expire(int limit, int group) {
        due.part("\"each article leaves the store if .. is at least the expiry limit of its group\"");
        NewsFlood x = new NewsFlood();
        x.setHistoryLimit(1);
        for (int other = 0; other < 4; other++) {
            x.setExpiry(other, other == group ? limit : 31 - limit);
        }
        x.post(0, group, 0);
        for (int age = 1; age < limit; age++) {
            due.is("nextDay() at age " + age + " of " + limit, x.nextDay(), 0);
        }
        x.post(5, group, 0);
        due.is("nextDay() at the limit " + limit, x.nextDay(), limit == 1 ? 2 : 1);
        due.is("isStored(0, 0)", x.isStored(0, 0), 0);
        due.is("isStored(5, 1), a younger one", x.isStored(5, 1), limit == 1 ? 0 : 1);
    }

    /** The number comes to host 1 a day later than to host 0, so it leaves a day later. */
    private static void forget(int limit) {
        due.part("\"each number leaves the history if .. is at least the history limit\"");
        NewsFlood x = Nets.links(0, 1);
        x.setExpiry(0, 30);
        x.post(0, 0, 0);
        x.nextDay();
        x.round();
        x.setHistoryLimit(limit);
        for (int age = 2; age < limit; age++) {
            x.nextDay();
            due.is("knownSince(0, 0) at age " + age + " of " + limit, x.knownSince(0, 0), 0);
        }
        x.nextDay();
        due.is("knownSince(0, 0) at the limit " + limit, x.knownSince(0, 0), -1);
        due.is("knownSince(1, 0), a day later", x.knownSince(1, 0), limit == 1 ? -1 : 1);
        due.is("isStored(1, 0), the store has a limit of its own", x.isStored(1, 0), limit == 30 ? 0 : 1);
        x.nextDay();
        due.is("knownSince(1, 0)", x.knownSince(1, 0), -1);
    }

    /** After four calls and four undos, an object answers as one that was not called. */
    private static void undoFour(String what, Consumer<NewsFlood> calls) {
        NewsFlood x = Nets.busy();
        NewsFlood untouched = Nets.busy();
        calls.accept(x);
        for (int left = 3; left >= 0; left--) {
            due.is("undo() of " + what, x.undo(), left);
        }
        // The number of saved states is the digest's last value: none here, 4 there.
        due.is("digest() after undo of " + what, x.digest(), untouched.digest() - 4);
        due.is("round() after undo of " + what, x.round(), untouched.round());
        due.is("digest() after that round", x.digest(), untouched.digest() - 3);
        due.is("settle() after undo of " + what, x.settle(), untouched.settle());
        due.is("digest() after that settle", x.digest(), untouched.digest() - 2);
    }

    private static void undo() {
        due.part("\"Each successful call .. saves the state from before the call, even if the call changes nothing\"");
        NewsFlood same = Nets.links(0, 1);
        same.undo();
        same.addLink(0, 1, 1);
        due.is("setKind to the same kind", same.setKind(0, 1), 1);
        due.is("undo()", same.undo(), 1);
        due.is("setGroups to the same set", same.setGroups(0, 15), 15);
        due.is("undo()", same.undo(), 1);
        due.is("setExpiry to the same limit", same.setExpiry(0, 5), 5);
        due.is("undo()", same.undo(), 1);
        due.is("setHistoryLimit to the same limit", same.setHistoryLimit(10), 10);
        due.is("undo()", same.undo(), 1);
        due.is("round() with an empty queue", same.round(), 0);
        due.is("undo()", same.undo(), 1);
        due.is("settle() with an empty queue", same.settle(), 0);
        due.is("undo()", same.undo(), 1);

        due.part("\"at most 4 states are saved, and the oldest is dropped first\"");
        for (int calls = 1; calls <= 12; calls++) {
            NewsFlood y = new NewsFlood();
            for (int i = 0; i < calls; i++) {
                y.nextDay();
            }
            int states = Math.min(calls, 4);
            for (int left = states - 1; left >= 0; left--) {
                due.is("undo() after " + calls + " calls", y.undo(), left);
                due.is("day()", y.day(), calls - states + left);
            }
            due.is("undo(), none is left", y.undo(), -5);
            due.is("day()", y.day(), calls - states);
        }

        due.part("\"The saved state contains everything except the error counters.\"");
        undoFour("limits, a new day, settle", x -> {
            x.setHistoryLimit(1);
            x.setExpiry(1, 1);
            x.nextDay();
            x.settle();
        });
        undoFour("links and groups", x -> {
            x.removeLink(0);
            x.setKind(1, 0);
            x.addLink(5, 4, 1);
            x.setGroups(4, 0);
        });
        undoFour("articles and a round", x -> {
            x.post(0, 3, 0);
            x.postAction(4, 5, 2, 0);
            x.round();
            x.postAction(1, 9, 1, 2);
        });
        NewsFlood errors = new NewsFlood();
        errors.nextDay();
        errors.post(6, 0, 0);
        errors.undo();
        errors.undo();
        due.is("errorCount(-2)", errors.errorCount(-2), 1);
        due.is("errorCount(-5)", errors.errorCount(-5), 1);
    }
}
