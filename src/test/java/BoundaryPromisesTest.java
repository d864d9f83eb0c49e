import java.math.BigInteger;
import java.util.ArrayList;
import java.util.List;

/**
 * Each sentence of the document's promises that names a boundary case, with a test of its own, in the
 * document's order. The sentence stands in quotes as the part's name.
 */
public final class BoundaryPromisesTest {
    private static final Due due = new Due();

    public static void main(String[] args) {
        newObject();
        addLink();
        removeLink();
        setKind();
        setGroups();
        setExpiry();
        setHistoryLimit();
        post();
        postAction();
        round();
        settle();
        nextDay();
        isStored();
        knownSince();
        pendingCancels();
        holders();
        storedInGroup();
        distance();
        waiting();
        total();
        day();
        undo();
        whatSaves();
        errorCount();
        digest();
        due.end();
    }

    private static void newObject() {
        due.part("1: \"Creates a network on day 0 without links and articles\"");
        due.is("day()", new NewsFlood().day(), 0);
        due.is("waiting()", new NewsFlood().waiting(), 0);
        Calls.range(due, "removeLink", NewsFlood::new, (x, v) -> x.removeLink(v), 0, -1);
        Calls.range(due, "setKind, link", NewsFlood::new, (x, v) -> x.setKind(v, 0), 0, -1);
        Calls.range(due, "holders", NewsFlood::new, (x, v) -> x.holders(v), 0, -1);
        for (int a = 0; a < 6; a++) {
            for (int b = 0; b < 6; b++) {
                due.is("distance(" + a + ", " + b + ")", new NewsFlood().distance(a, b), a == b ? 0 : -1);
            }
        }
        Calls.refused(due, "undo()", NewsFlood::new, NewsFlood::undo, -5);

        due.part("1: \"with the expiry limit 5 for each group and the history limit 10\"");
        for (int group = 0; group < 4; group++) {
            NewsFlood x = new NewsFlood();
            x.post(0, group, 0);
            for (int day = 1; day < 5; day++) {
                due.is("nextDay() to day " + day, x.nextDay(), 0);
            }
            due.is("nextDay() to day 5", x.nextDay(), 1);
            for (int day = 6; day < 10; day++) {
                x.nextDay();
            }
            due.is("knownSince(0, 0) on day 9", x.knownSince(0, 0), 0);
            x.nextDay();
            due.is("knownSince(0, 0) on day 10", x.knownSince(0, 0), -1);
        }
    }

    private static void addLink() {
        due.part("2: \"OUT_OF_RANGE if an argument is out of range or a equals b (checked first)\"");
        Calls.refused(due, "addLink(0, 1, 2), there is one", Nets::busy, x -> x.addLink(0, 1, 2), -2);
        Calls.refused(due, "addLink(1, 2, -1), there is one", Nets::busy, x -> x.addLink(1, 2, -1), -2);
        Calls.refused(due, "addLink(3, 4, 2), full", Nets::full, x -> x.addLink(3, 4, 2), -2);
        Calls.refused(due, "addLink(4, 4, 0), full", Nets::full, x -> x.addLink(4, 4, 0), -2);
        Calls.refused(due, "addLink(6, 4, 0), full", Nets::full, x -> x.addLink(6, 4, 0), -2);
        Calls.refused(due, "addLink(4, -1, 0), full", Nets::full, x -> x.addLink(4, -1, 0), -2);
        Calls.refused(due, "addLink(6, 6, 2), all of it wrong", Nets::busy, x -> x.addLink(6, 6, 2), -2);

        due.part("2: \"EXISTS if a link connects these hosts (checked second)\"");
        Calls.refused(due, "addLink(0, 1, 0)", Nets::busy, x -> x.addLink(0, 1, 0), -3);
        Calls.refused(due, "addLink(1, 0, 1)", Nets::busy, x -> x.addLink(1, 0, 1), -3);
        for (int[] pair : Nets.PAIRS) {
            String ends = pair[0] + " - " + pair[1];
            Calls.refused(due, "addLink " + ends + ", full", Nets::full, x -> x.addLink(pair[0], pair[1], 0), -3);
            Calls.refused(due, "addLink " + ends + " back, full", Nets::full, x -> x.addLink(pair[1], pair[0], 1), -3);
        }

        due.part("2: \"FULL if there are 12 links\"");
        Calls.refused(due, "addLink(3, 4, 0)", Nets::full, x -> x.addLink(3, 4, 0), -4);
        Calls.refused(due, "addLink(5, 4, 1)", Nets::full, x -> x.addLink(5, 4, 1), -4);
        Calls.refused(due, "addLink(3, 5, 1)", Nets::twelveLinks, x -> x.addLink(3, 5, 1), -4);
        NewsFlood x = Nets.twelveLinks();
        due.is("removeLink(5)", x.removeLink(5), 11);
        due.is("addLink(3, 4, 0), there are 11", x.addLink(3, 4, 0), 11);
        due.is("addLink(3, 5, 0)", x.addLink(3, 5, 0), -4);
        due.is("undo()", x.undo(), 3);
        due.is("addLink(3, 5, 0), there are 11 again", x.addLink(3, 5, 0), 11);
    }

    private static void removeLink() {
        due.part("3: \"The links with higher numbers move down by one.\"");
        for (int removed = 0; removed < 12; removed++) {
            NewsFlood x = Nets.twelveLinks();
            due.is("removeLink(" + removed + ")", x.removeLink(removed), 11);
            for (int link = 0; link < 11; link++) {
                int old = link < removed ? link : link + 1;
                due.is("setKind(" + link + ", 0)", x.setKind(link, 0), old % 2);
            }
            due.is("setKind(11, 0)", x.setKind(11, 0), -2);
            // Removing by number tells which hosts each link connects.
            for (int link = 11; link > 0; link--) {
                int[] pair = Nets.PAIRS[link <= removed ? link - 1 : link];
                due.isTrue("a link " + pair[0] + " - " + pair[1], x.distance(pair[0], pair[1]) == 1);
                due.is("removeLink(" + (link - 1) + ")", x.removeLink(link - 1), link - 1);
                due.isTrue("no link " + pair[0] + " - " + pair[1], x.distance(pair[0], pair[1]) != 1);
            }
        }

        due.part("3: \"the number of links that remain; OUT_OF_RANGE if there is no such link\"");
        Calls.range(due, "removeLink with three links", Nets::busy, (x, v) -> x.removeLink(v), 0, 2);
        Calls.range(due, "removeLink with twelve links", Nets::full, (x, v) -> x.removeLink(v), 0, 11);
        NewsFlood one = Nets.links(0, 1);
        due.is("removeLink(1)", one.removeLink(1), -2);
        due.is("removeLink(0), the last one", one.removeLink(0), 0);
        due.is("removeLink(0), none is left", one.removeLink(0), -2);
    }

    private static void setKind() {
        due.part("4: \"the previous kind; OUT_OF_RANGE if an argument is out of range\"");
        Calls.range(due, "setKind, link", Nets::busy, (x, v) -> x.setKind(v, 1), 0, 2);
        Calls.range(due, "setKind, link of twelve", Nets::full, (x, v) -> x.setKind(v, 1), 0, 11);
        Calls.refused(due, "setKind(3, 2), both wrong", Nets::busy, x -> x.setKind(3, 2), -2);
        NewsFlood x = Nets.links(0, 1, 1, 2);
        due.is("setKind(1, 1)", x.setKind(1, 1), 0);
        due.is("setKind(1, 1), the same again", x.setKind(1, 1), 1);
        due.is("setKind(0, 1), the other link", x.setKind(0, 1), 0);
        x.removeLink(1);
        due.is("setKind(1, 0), removed", x.setKind(1, 0), -2);
    }

    private static void setGroups() {
        due.part("5: \"set of groups as a bit set, 0 to 15\"");
        Calls.range(due, "setGroups, groups", Nets::busy, (x, v) -> x.setGroups(0, v), 0, 15);
        Calls.refused(due, "setGroups(6, 16), both wrong", Nets::busy, x -> x.setGroups(6, 16), -2);
        NewsFlood each = new NewsFlood();
        for (int groups = 15; groups >= 0; groups--) {
            due.is("setGroups(5, " + groups + ")", each.setGroups(5, groups), Math.min(groups + 1, 15));
        }
        for (int groups = 0; groups < 16; groups++) {
            NewsFlood x = new NewsFlood();
            x.setGroups(2, groups);
            for (int group = 0; group < 4; group++) {
                x.post(2, group, 0);
                due.is("groups " + groups + ", group " + group, x.isStored(2, group), groups >> group & 1);
            }
        }

        due.part("5: \"Articles in its store stay.\"");
        NewsFlood x = Nets.links(0, 1);
        x.post(0, 3, 0);
        x.setGroups(0, 0);
        due.is("isStored(0, 0)", x.isStored(0, 0), 1);
        due.is("storedInGroup(0, 3)", x.storedInGroup(0, 3), 1);
        due.is("waiting(), what is under way stays too", x.waiting(), 1);
        due.is("nextDay()", x.nextDay(), 0);
        due.is("isStored(0, 0)", x.isStored(0, 0), 1);
    }

    private static void setExpiry() {
        due.part("6: \"the limit, 1 to 30\"");
        Calls.range(due, "setExpiry, days", Nets::busy, (x, v) -> x.setExpiry(3, v), 1, 30);
        Calls.refused(due, "setExpiry(4, 31), both wrong", Nets::busy, x -> x.setExpiry(4, 31), -2);

        due.part("6: \"the previous limit\"");
        for (int group = 0; group < 4; group++) {
            NewsFlood x = new NewsFlood();
            due.is("setExpiry(" + group + ", 30)", x.setExpiry(group, 30), 5);
            due.is("setExpiry(" + group + ", 31)", x.setExpiry(group, 31), -2);
            due.is("setExpiry(" + group + ", 1)", x.setExpiry(group, 1), 30);
            due.is("setExpiry(" + group + ", 0)", x.setExpiry(group, 0), -2);
            due.is("setExpiry(" + group + ", 2)", x.setExpiry(group, 2), 1);
            for (int other = 0; other < 4; other++) {
                due.is("setExpiry(" + other + ", 9)", x.setExpiry(other, 9), other == group ? 2 : 5);
            }
        }
    }

    private static void setHistoryLimit() {
        due.part("7: \"the limit, 1 to 30\"");
        Calls.range(due, "setHistoryLimit", Nets::busy, (x, v) -> x.setHistoryLimit(v), 1, 30);

        due.part("7: \"the previous limit\"");
        NewsFlood x = new NewsFlood();
        due.is("setHistoryLimit(30)", x.setHistoryLimit(30), 10);
        due.is("setHistoryLimit(31)", x.setHistoryLimit(31), -2);
        due.is("setHistoryLimit(1)", x.setHistoryLimit(1), 30);
        due.is("setHistoryLimit(0)", x.setHistoryLimit(0), -2);
        due.is("setHistoryLimit(2)", x.setHistoryLimit(2), 1);
    }

    private static void post() {
        due.part("8: \"created with the present day and arrives at the host with an empty path\"");
        NewsFlood x = Nets.links(0, 1, 0, 2);
        x.setHistoryLimit(1);
        x.nextDay();
        due.is("post", x.post(0, 0, 0), 0);
        due.is("knownSince(0, 0), never too old for its own host", x.knownSince(0, 0), 1);
        due.is("waiting(), to all neighbours", x.waiting(), 2);
        due.is("total(0)", x.total(0), 0);
        due.is("nextDay(), its age counts from its own day", x.nextDay(), 0);

        due.part("8: \"OUT_OF_RANGE if an argument is out of range (checked first)\"");
        Calls.refused(due, "post(6, 0, 0), full", Nets::full, n -> n.post(6, 0, 0), -2);
        Calls.refused(due, "post(-1, 0, 0), full", Nets::full, n -> n.post(-1, 0, 0), -2);
        Calls.refused(due, "post(0, 4, 0), full", Nets::full, n -> n.post(0, 4, 0), -2);
        Calls.refused(due, "post(0, -1, 0), full", Nets::full, n -> n.post(0, -1, 0), -2);
        Calls.refused(due, "post(0, 0, 10), full", Nets::full, n -> n.post(0, 0, 10), -2);
        Calls.refused(due, "post(0, 0, -1), full", Nets::full, n -> n.post(0, 0, -1), -2);
        Calls.refused(due, "post(6, 4, 10), all of it wrong", Nets::busy, n -> n.post(6, 4, 10), -2);

        due.part("8: \"FULL if 30 articles have been posted\"");
        Calls.refused(due, "post(0, 0, 0)", Nets::full, n -> n.post(0, 0, 0), -4);
        Calls.refused(due, "post(5, 3, 9)", Nets::thirtyArticles, n -> n.post(5, 3, 9), -4);
        NewsFlood full = Nets.thirtyArticles();
        full.undo();
        due.is("post, 29 have been posted", full.post(5, 3, 9), 29);
        due.is("isStored(5, 29)", full.isStored(5, 29), 1);
        due.is("post", full.post(5, 3, 9), -4);
    }

    private static void postAction() {
        due.part("9: \"in the group of the target\"");
        for (int group = 0; group < 4; group++) {
            NewsFlood x = new NewsFlood();
            x.post(0, 3 - group, 0);
            x.post(0, group, 0);
            x.setGroups(5, 1 << group);
            x.postAction(5, 0, 1, 1);
            x.postAction(5, 0, 2, 2);
            due.is("storedInGroup(5, " + group + "), a chain of targets", x.storedInGroup(5, group), 1);
            due.is("isStored(5, 3)", x.isStored(5, 3), 1);
        }

        due.part("9: \"OUT_OF_RANGE if an argument is out of range (checked first)\"");
        Calls.refused(due, "postAction(6, 0, 1, 0), full", Nets::full, x -> x.postAction(6, 0, 1, 0), -2);
        Calls.refused(due, "postAction(0, 10, 1, 0), full", Nets::full, x -> x.postAction(0, 10, 1, 0), -2);
        Calls.refused(due, "postAction(0, 0, 0, 0), full", Nets::full, x -> x.postAction(0, 0, 0, 0), -2);
        Calls.refused(due, "postAction(0, 0, 3, 0), full", Nets::full, x -> x.postAction(0, 0, 3, 0), -2);
        Calls.refused(due, "postAction(0, 0, 1, 30), full", Nets::full, x -> x.postAction(0, 0, 1, 30), -2);
        Calls.refused(due, "postAction(0, 0, 1, -1), full", Nets::full, x -> x.postAction(0, 0, 1, -1), -2);
        Calls.refused(due, "postAction(6, 10, 3, 9)", Nets::busy, x -> x.postAction(6, 10, 3, 9), -2);
        Calls.refused(due, "postAction(0, 0, 1, -1), the target of none", Nets::busy, x -> x.postAction(0, 0, 1, -1), -2);

        due.part("9: \"FULL if 30 articles have been posted\"");
        Calls.refused(due, "postAction(0, 0, 1, 0)", Nets::full, x -> x.postAction(0, 0, 1, 0), -4);
        Calls.refused(due, "postAction(5, 9, 2, 29)", Nets::thirtyArticles, x -> x.postAction(5, 9, 2, 29), -4);
        NewsFlood full = Nets.thirtyArticles();
        full.undo();
        due.is("postAction on itself, 29 have been posted", full.postAction(4, 8, 2, 29), -2);
        due.is("postAction, 29 have been posted", full.postAction(4, 8, 2, 28), 29);
        due.is("isStored(4, 28)", full.isStored(4, 28), 0);
        due.is("postAction", full.postAction(4, 8, 2, 28), -4);
    }

    private static void round() {
        due.part("10: \"the number of arrivals during the round in which step (6) was performed\"");
        NewsFlood empty = new NewsFlood();
        due.is("round(), nothing waits", empty.round(), 0);
        // Host 1 gets an article and its cancel in one round: both came into the store.
        NewsFlood cancelled = Nets.links(0, 1);
        cancelled.post(0, 0, 4);
        cancelled.postAction(0, 4, 1, 0);
        due.is("round(), stored and cancelled in the same round", cancelled.round(), 2);
        due.is("holders(0)", cancelled.holders(0), 0);
        NewsFlood several = Nets.links(0, 1, 0, 2, 0, 3, 0, 4, 0, 5);
        several.setGroups(1, 14);
        several.post(0, 0, 4);
        several.postAction(2, 4, 1, 0);
        several.removeLink(2);
        due.is("round(), not carried, cancelled, dropped, 4, 5, and the cancel at 0", several.round(), 3);
        NewsFlood known = Nets.links(0, 1, 0, 2, 1, 2);
        known.post(0, 0, 0);
        due.is("round()", known.round(), 2);
        due.is("round(), two duplicates over push", known.round(), 0);
        known.undo();
        known.setKind(2, 1);
        due.is("round(), two offers of what is known", known.round(), 0);
        NewsFlood old = Nets.links(0, 1);
        old.setHistoryLimit(1);
        old.post(0, 0, 0);
        old.nextDay();
        due.is("round(), too old", old.round(), 0);
        NewsFlood again = Nets.links(0, 1, 0, 2, 1, 2);
        again.post(0, 0, 0);
        again.round();
        again.setHistoryLimit(1);
        again.nextDay();
        again.setHistoryLimit(9);
        due.is("round(), forgotten but still stored at 1 and 2", again.round(), 2);
        NewsFlood most = Nets.links(0, 1, 0, 2, 0, 3, 0, 4, 0, 5);
        for (int i = 0; i < 30; i++) {
            most.post(0, i % 4, 0);
        }
        due.is("round(), as many as can be", most.round(), 150);
    }

    private static void settle() {
        due.part("11: \"the number of rounds; 0 if the queue was empty\"");
        NewsFlood never = new NewsFlood();
        due.is("settle() of a new object", never.settle(), 0);
        for (int last = 0; last < 6; last++) {
            NewsFlood x = Nets.line(last);
            x.post(0, 0, 0);
            due.is("settle() along " + last + " links", x.settle(), last);
            due.is("waiting()", x.waiting(), 0);
            due.is("settle() again", x.settle(), 0);
        }
        NewsFlood dropped = Nets.line(1);
        dropped.post(0, 0, 0);
        dropped.removeLink(0);
        due.is("settle(), a round of dropped transfers is one", dropped.settle(), 1);

        due.part("11: \"Undoable: it saves one state for all rounds, also if the queue was empty.\"");
        NewsFlood x = Nets.line(5);
        for (int i = 0; i < 4; i++) {
            x.undo();
        }
        x.post(0, 0, 0);
        due.is("settle(), one link", x.settle(), 1);
        due.is("settle(), none waits", x.settle(), 0);
        due.is("undo()", x.undo(), 2);
        due.is("undo()", x.undo(), 1);
        due.is("holders(0)", x.holders(0), 1);
        NewsFlood five = Nets.line(5);
        five.post(5, 0, 0);
        five.settle();
        due.is("undo() of five rounds", five.undo(), 3);
        due.is("holders(0)", five.holders(0), 32);
        due.is("waiting()", five.waiting(), 1);
    }

    private static void nextDay() {
        due.part("12: \"the number of articles that left a store, all hosts together\"");
        NewsFlood x = Nets.line(5);
        due.is("nextDay() without articles", x.nextDay(), 0);
        x.setExpiry(0, 2);
        x.setExpiry(1, 1);
        x.setHistoryLimit(2);
        for (int i = 0; i < 30; i++) {
            x.post(0, i < 29 ? 0 : 1, 0);
        }
        x.settle();
        due.is("nextDay(), one article at six hosts", x.nextDay(), 6);
        due.is("nextDay(), 29 articles at six hosts", x.nextDay(), 174);
        due.is("nextDay(), none is left", x.nextDay(), 0);
        NewsFlood history = new NewsFlood();
        history.setHistoryLimit(1);
        history.post(0, 0, 0);
        due.is("nextDay(), what leaves a history does not count", history.nextDay(), 0);
    }

    private static void isStored() {
        due.part("13: \"1 if it is, 0 if it is not; OUT_OF_RANGE if an argument is out of range\"");
        Calls.range(due, "isStored, no article", NewsFlood::new, (x, v) -> x.isStored(0, v), 0, -1);
        Calls.range(due, "isStored, article", Nets::busy, (x, v) -> x.isStored(0, v), 0, 2);
        Calls.range(due, "isStored, of thirty", Nets::full, (x, v) -> x.isStored(5, v), 0, 29);
        Calls.refused(due, "isStored(6, 3), both wrong", Nets::busy, x -> x.isStored(6, 3), -2);
        NewsFlood thirty = Nets.thirtyArticles();
        for (int i = 0; i < 180; i++) {
            int want = i / 6 % 6 == i % 6 ? 1 : 0;
            due.is("isStored(" + i % 6 + ", " + i / 6 + ")", thirty.isStored(i % 6, i / 6), want);
        }
    }

    private static void knownSince() {
        due.part("14: \"the day; NONE if the number is not in the history; OUT_OF_RANGE if ..\"");
        Calls.range(due, "knownSince, no article", NewsFlood::new, (x, v) -> x.knownSince(0, v), 0, -1);
        Calls.range(due, "knownSince, article", Nets::busy, (x, v) -> x.knownSince(0, v), 0, 2);
        Calls.range(due, "knownSince, of thirty", Nets::full, (x, v) -> x.knownSince(5, v), 0, 29);
        Calls.refused(due, "knownSince(6, 3), both wrong", Nets::busy, x -> x.knownSince(6, 3), -2);
        NewsFlood x = new NewsFlood();
        x.post(0, 0, 0);
        due.is("knownSince(0, 0) on day 0", x.knownSince(0, 0), 0);
        due.is("knownSince(1, 0), never", x.knownSince(1, 0), -1);
        due.is("errorCount(-2), NONE is no error", x.errorCount(-2), 0);
        for (int day = 1; day < 300; day++) {
            x.nextDay();
        }
        x.post(0, 0, 0);
        due.is("knownSince(0, 0), left", x.knownSince(0, 0), -1);
        due.is("knownSince(0, 1), a late day", x.knownSince(0, 1), 299);
    }

    private static void pendingCancels() {
        due.part("15: \"Returns the number of pending cancels of a host.\"");
        NewsFlood x = Nets.thirtyArticles();
        for (int host = 0; host < 6; host++) {
            due.is("pendingCancels(" + host + "), none", x.pendingCancels(host), 0);
        }
        NewsFlood most = new NewsFlood();
        most.post(0, 0, 0);
        for (int i = 1; i < 30; i++) {
            most.postAction(5, i % 10, 1 + i % 2, 0);
        }
        due.is("pendingCancels(5), all ten authors of target 0", most.pendingCancels(5), 10);
        NewsFlood targets = new NewsFlood();
        for (int i = 0; i < 15; i++) {
            targets.post(0, 0, 9);
        }
        for (int i = 0; i < 15; i++) {
            targets.postAction(4, 9, 1, i);
            due.is("pendingCancels(4)", targets.pendingCancels(4), i + 1);
        }
    }

    private static void holders() {
        due.part("16: \"a bit set of hosts; OUT_OF_RANGE if there is no such article\"");
        Calls.range(due, "holders, article", Nets::busy, (x, v) -> x.holders(v), 0, 2);
        Calls.range(due, "holders, of thirty", Nets::full, (x, v) -> x.holders(v), 0, 29);
        NewsFlood thirty = Nets.thirtyArticles();
        for (int article = 0; article < 30; article++) {
            due.is("holders(" + article + ")", thirty.holders(article), 1 << article % 6);
        }
        NewsFlood none = new NewsFlood();
        none.setGroups(0, 0);
        none.post(0, 0, 0);
        due.is("holders(0), no host", none.holders(0), 0);
        NewsFlood all = Nets.line(5);
        all.post(2, 0, 0);
        all.settle();
        due.is("holders(0), every host", all.holders(0), 63);
        all.undo();
        all.undo();
        due.is("holders(0), the post undone", all.holders(0), -2);
    }

    private static void storedInGroup() {
        due.part("17: \"Returns the number of articles of a group in the store of a host.\"");
        Calls.refused(due, "storedInGroup(6, 4), both wrong", Nets::busy, x -> x.storedInGroup(6, 4), -2);
        for (int host = 0; host < 6; host++) {
            for (int group = 0; group < 4; group++) {
                due.is("storedInGroup, none", new NewsFlood().storedInGroup(host, group), 0);
                NewsFlood x = new NewsFlood();
                for (int i = 0; i < 30; i++) {
                    x.post(host, group, 0);
                }
                due.is("storedInGroup, thirty", x.storedInGroup(host, group), 30);
                due.is("storedInGroup, another group", x.storedInGroup(host, 3 - group), 0);
                due.is("storedInGroup, another host", x.storedInGroup(5 - host, group), 0);
            }
        }
    }

    private static void distance() {
        due.part("18: \"the number of links on a shortest way, 0 if a equals b; NONE if there is no way\"");
        for (int host = 0; host < 6; host++) {
            due.is("distance of a host from itself, no links", new NewsFlood().distance(host, host), 0);
            due.is("distance of a host from itself, 12 links", Nets.twelveLinks().distance(host, host), 0);
        }
        NewsFlood line = Nets.line(5);
        due.is("distance(0, 5), the longest way", line.distance(0, 5), 5);
        due.is("distance(5, 0)", line.distance(5, 0), 5);
        line.addLink(4, 0, 1);
        due.is("distance(0, 5), a shorter way", line.distance(0, 5), 2);
        line.removeLink(4);
        due.is("distance(0, 5), no way", line.distance(0, 5), -1);
        due.is("distance(5, 0), no way", line.distance(5, 0), -1);
        due.is("errorCount(-2), NONE is no error", line.errorCount(-2), 0);

        due.part("18: \"whatever their kinds\"");
        NewsFlood ask = new NewsFlood();
        ask.addLink(0, 1, 1);
        ask.addLink(1, 2, 0);
        due.is("distance(0, 2)", ask.distance(0, 2), 2);
        due.is("distance(2, 0)", ask.distance(2, 0), 2);
        ask.setKind(1, 1);
        due.is("distance(0, 2)", ask.distance(0, 2), 2);
    }

    private static void waiting() {
        due.part("19: \"Returns the number of transfers in the queue.\"");
        NewsFlood x = Nets.twelveLinks();
        due.is("waiting(), none", x.waiting(), 0);
        for (int i = 1; i <= 30; i++) {
            x.post(0, 0, 0);
            due.is("waiting() after " + i + " posts", x.waiting(), 5 * i);
        }
        x.round();
        // Host 1 and 2 have four links more than the one to host 0, hosts 3 to 5 two more.
        due.is("waiting(), as many as can be", x.waiting(), 30 * (4 + 4 + 2 + 2 + 2));
        x.nextDay();
        due.is("waiting(), a new day takes none out", x.waiting(), 420);
        x.removeLink(0);
        due.is("waiting(), nor does a removed link", x.waiting(), 420);
        x.round();
        due.is("waiting()", x.waiting(), 0);
    }

    private static void total() {
        due.part("20: \"the count; OUT_OF_RANGE if there is no such count\"");
        Calls.range(due, "total", Nets::busy, (x, v) -> x.total(v), 0, 5);
        Calls.range(due, "total, a new object", NewsFlood::new, (x, v) -> x.total(v), 0, 5);
        NewsFlood x = Nets.links(0, 1);
        x.post(0, 0, 4);
        x.settle();
        x.setKind(0, 1);
        x.postAction(0, 5, 1, 0);
        x.postAction(0, 5, 1, 0);
        x.settle();
        x.postAction(2, 4, 1, 0);
        x.post(2, 0, 4);
        x.postAction(2, 5, 2, 4);
        due.is("total(0)", x.total(0), 3);
        due.is("total(1)", x.total(1), 2);
        due.is("total(2)", x.total(2), 0);
        due.is("total(3)", x.total(3), 0);
        due.is("total(4)", x.total(4), 0);
        due.is("total(5)", x.total(5), 5);
        x.postAction(2, 4, 2, 4);
        due.is("total(4)", x.total(4), 1);
        x.post(0, 0, 0);
        x.setHistoryLimit(1);
        x.nextDay();
        x.settle();
        due.is("total(0)", x.total(0), 4);
        due.is("total(1)", x.total(1), 3);
        due.is("total(3)", x.total(3), 1);
        x.addLink(0, 2, 0);
        x.addLink(1, 2, 0);
        x.post(2, 1, 0);
        x.settle();
        // 2 -> 0 and 2 -> 1 over push, then 0 -> 1 and 1 -> 0 over the link that asks.
        due.is("total(0)", x.total(0), 6);
        due.is("total(1)", x.total(1), 5);
        due.is("total(2)", x.total(2), 0);
        x.setKind(0, 0);
        x.post(2, 1, 0);
        x.settle();
        due.is("total(0)", x.total(0), 10);
        due.is("total(2)", x.total(2), 2);
        for (int count = 0; count < 6; count++) {
            due.is("total(" + count + ") of a new object", new NewsFlood().total(count), 0);
        }
    }

    private static void day() {
        due.part("21: \"Returns the present day.\"");
        NewsFlood x = new NewsFlood();
        due.is("day() of a new object", x.day(), 0);
        for (int day = 1; day < 250; day++) {
            x.nextDay();
            due.is("day()", x.day(), day);
        }
        x.undo();
        due.is("day() after undo", x.day(), 248);
    }

    private static void undo() {
        due.part("22: \"the number of saved states that remain; NOTHING_SAVED if there is none\"");
        Calls.refused(due, "undo()", NewsFlood::new, NewsFlood::undo, -5);
        NewsFlood x = new NewsFlood();
        x.nextDay();
        due.is("undo() of one", x.undo(), 0);
        due.is("undo(), none is left", x.undo(), -5);
        due.is("undo(), still none", x.undo(), -5);
        due.is("errorCount(-5)", x.errorCount(-5), 2);
        due.is("day()", x.day(), 0);

        due.part("22: \"Restores the most recently saved state and removes it from the saved states.\"");
        NewsFlood y = new NewsFlood();
        for (int i = 0; i < 7; i++) {
            y.nextDay();
        }
        y.undo();
        y.undo();
        due.is("day()", y.day(), 5);
        y.setHistoryLimit(3);
        y.setHistoryLimit(4);
        y.setHistoryLimit(5);
        due.is("undo(), the last of five that were saved", y.undo(), 3);
        due.is("setHistoryLimit(9), the state before the last call", y.setHistoryLimit(9), 4);
        due.is("undo()", y.undo(), 3);
        due.is("undo()", y.undo(), 2);
        due.is("undo()", y.undo(), 1);
        due.is("day()", y.day(), 5);
        due.is("undo()", y.undo(), 0);
        due.is("day(), the oldest that was kept", y.day(), 4);
        due.is("undo()", y.undo(), -5);
    }

    private static void whatSaves() {
        due.part("22: a call that is refused or that is not \"Undoable\" saves nothing");
        NewsFlood x = Nets.links(0, 1);
        x.addLink(0, 0, 0);
        x.addLink(0, 1, 0);
        x.removeLink(1);
        x.setKind(1, 0);
        x.setGroups(0, 16);
        x.setExpiry(0, 0);
        x.setHistoryLimit(0);
        x.post(0, 0, 10);
        x.postAction(0, 0, 1, 0);
        x.isStored(0, 0);
        x.knownSince(0, 0);
        x.pendingCancels(0);
        x.holders(0);
        x.storedInGroup(0, 0);
        x.distance(0, 1);
        x.waiting();
        x.total(0);
        x.day();
        x.errorCount(0);
        x.digest();
        due.is("undo(), of addLink", x.undo(), 0);
        due.is("distance(0, 1)", x.distance(0, 1), -1);
        due.is("undo()", x.undo(), -5);
    }

    private static void errorCount() {
        due.part("23: \"OUT_OF_RANGE if code is out of range (this increments the counter of OUT_OF_RANGE)\"");
        Calls.range(due, "errorCount", Nets::busy, (x, v) -> x.errorCount(v), -5, -2);
        NewsFlood x = new NewsFlood();
        due.is("errorCount(-6)", x.errorCount(-6), -2);
        due.is("errorCount(-2)", x.errorCount(-2), 1);
        due.is("errorCount(-1), NONE is no error code", x.errorCount(-1), -2);
        due.is("errorCount(-2)", x.errorCount(-2), 2);
        due.is("errorCount(-3)", x.errorCount(-3), 0);
        due.is("errorCount(-4)", x.errorCount(-4), 0);
        due.is("errorCount(-5)", x.errorCount(-5), 0);

        due.part("23: \"Returns how often an error code has been returned.\"");
        NewsFlood y = Nets.full();
        y.addLink(3, 4, 0);
        y.post(0, 0, 0);
        y.postAction(0, 0, 1, 0);
        y.addLink(0, 1, 0);
        y.addLink(1, 0, 0);
        y.total(6);
        for (int i = 0; i < 8; i++) {
            y.undo();
        }
        due.is("errorCount(-2)", y.errorCount(-2), 1);
        due.is("errorCount(-3)", y.errorCount(-3), 2);
        due.is("errorCount(-4)", y.errorCount(-4), 3);
        due.is("errorCount(-5)", y.errorCount(-5), 4);
    }

    private static void digest() {
        due.part("24: \"(NONE if the action is 0)\", \"(NONE if it is not in it)\"");
        NewsFlood x = new NewsFlood();
        x.setHistoryLimit(1);
        x.post(0, 3, 9);
        x.nextDay();
        x.postAction(5, 8, 2, 0);
        List<Integer> values = new ArrayList<>(List.of(0, 0, 0, 0, 1, 1, 5, 5, 5, 5));
        values.addAll(List.of(2, 3, 9, 0, 0, -1, 3, 8, 1, 2, 0));
        values.addAll(List.of(15, 0, 1, -1, 0, -1));
        for (int host = 1; host < 5; host++) {
            values.addAll(List.of(15, 0, 0, -1, 0, -1));
        }
        values.addAll(List.of(15, 1, 0, -1, 1, 1));
        values.addAll(List.of(0, 0, 0, 0, 0, 0, 0, 4));
        due.is("digest()", x.digest(), hash(values));

        due.part("24: \"its first host, its second host (as given to addLink)\"");
        NewsFlood y = new NewsFlood();
        y.addLink(5, 0, 1);
        y.addLink(1, 2, 0);
        y.removeLink(1);
        List<Integer> link = new ArrayList<>(List.of(0, 0, 0, 0, 0, 10, 5, 5, 5, 5, 5, 0, 1, 0));
        for (int host = 0; host < 6; host++) {
            link.addAll(List.of(15, 0));
        }
        link.addAll(List.of(0, 0, 0, 0, 0, 0, 0, 3));
        due.is("digest()", y.digest(), hash(link));

        due.part("24: \"the number of saved states\"");
        NewsFlood saved = new NewsFlood();
        long none = saved.digest();
        for (int calls = 1; calls < 9; calls++) {
            saved.settle();
            due.is("digest() after " + calls + " calls that changed nothing", saved.digest(), none + Math.min(calls, 4));
        }

        due.part("24: \"with the overflow of long arithmetic ignored\"");
        largestDigest();
    }

    /** All links and all articles: as many values as a digest can have. */
    private static void largestDigest() {
        NewsFlood x = Nets.twelveLinks();
        List<Integer> values = new ArrayList<>(List.of(0, 0, 0, 0, 0, 10, 5, 5, 5, 5));
        for (int i = 0; i < 12; i++) {
            values.addAll(List.of(Nets.PAIRS[i][0], Nets.PAIRS[i][1], i % 2));
        }
        values.add(30);
        for (int i = 0; i < 30; i++) {
            x.post(i % 6, i % 4, i % 10);
            values.addAll(List.of(i % 4, i % 10, 0, 0, -1));
        }
        x.settle();
        for (int host = 0; host < 6; host++) {
            values.addAll(List.of(15, 0));
            for (int article = 0; article < 30; article++) {
                values.addAll(List.of(x.isStored(host, article), x.knownSince(host, article)));
            }
        }
        for (int count = 0; count < 6; count++) {
            values.add(x.total(count));
        }
        values.addAll(List.of(0, 4));
        due.is("digest()", x.digest(), hash(values));
    }

    /** In whole numbers without a limit, cut to 64 bits at the end. */
    private static long hash(List<Integer> values) {
        BigInteger h = BigInteger.valueOf(2659);
        for (int v : values) {
            h = h.multiply(BigInteger.valueOf(31)).add(BigInteger.valueOf(v));
        }
        return h.longValue();
    }
}
