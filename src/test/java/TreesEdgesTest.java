/** The sentences on boundary cases of the terms JOINS AND CUTS and MESSAGES, one after the other. */
public final class TreesEdgesTest {
    private static final String TOLD = "one WITHDRAWN, if it was at some router and there is (now) a link between that"
        + " router and its own; and one PLACED, if it is at some router now";

    public static void main(String[] args) {
        Due due = new Due();
        nowhereAtFirst(due);
        keepaliveRuns(due);
        switchEndsAtTheSource(due);
        switchEndsAtAReceiver(due);
        switchEndsAtOneRouter(due);
        cutEndsWithTheSwitch(due);
        settledByCalls(due);
        settledByTicks(due);
        sharedNeedsAHop(due);
        sharedByMarkOrRouter(due);
        innerList(due);
        innerListOfSeveralCuts(due);
        cutNeedsTheSharedJoin(due);
        cutOfAnEmptyList(due);
        cutOfASwitchedRouter(due);
        noCutIfHopsAreTheSame(due);
        cutIfTheSourceIsGone(due);
        cutOfTheSource(due);
        outerListHoldsEachOnce(due);
        sourceNeedsAHop(due);
        sourceByRouter(due);
        sourceByKeepaliveAndList(due);
        sharedMessages(due);
        sourceMessages(due);
        cutMessages(due);
        due.end();
    }

    /** The meeting point 0 and its neighbours 1 and 3, with 2 between these; its shared join is at 1, the lower one. */
    private static MulticastTrees square() {
        return Nets.line(0, 0, 1, 2, 3, 0);
    }

    private static void nowhereAtFirst(Due due) {
        due.by("JOINS AND CUTS", "Each of these is at one other router, or nowhere (at first nowhere).");
        MulticastTrees x = new MulticastTrees(0);
        for (int n = 0; n < 6; n++) {
            for (int g = 0; g < 3; g++) {
                due.is("shared " + n + " " + g, x.shared(n, g), -1);
                for (int s = 0; s < 6; s++) due.is("entry " + n + " " + s + " " + g, x.entry(n, s, g), 0);
            }
        }
        for (int kind = 0; kind < 10; kind++) due.is("messages " + kind, x.messages(kind), 0);
    }

    private static void keepaliveRuns(Due due) {
        due.by("JOINS AND CUTS", "a KEEPALIVE time (0 at first), which RUNS while the clock is less than it");
        MulticastTrees x = new MulticastTrees(0);
        due.is("at first", x.entry(5, 5, 2), 0);
        x.send(5, 2);
        for (int t = 0; t < 8; t++) {
            due.is("at clock " + t, x.entry(5, 5, 2), 1);
            x.pass(1);
        }
        due.is("at clock 8", x.entry(5, 5, 2), 0);
    }

    private static void switchEndsAtTheSource(Due due) {
        due.by("JOINS AND CUTS", "it is no longer switched as soon as that keepalive does not run");
        MulticastTrees x = new MulticastTrees(0);
        x.join(1, 0, 0);
        x.send(1, 0);
        x.leave(1, 0, 0, true);
        x.pass(7);
        due.is("it runs for a tick more", x.entry(1, 1, 0), 3);
        x.pass(1);
        due.is("it does not run", x.entry(1, 1, 0), 0);
        x.send(1, 0);
        due.is("one that is set anew does not switch", x.entry(1, 1, 0), 1);
    }

    private static void switchEndsAtAReceiver(Due due) {
        due.by("JOINS AND CUTS", "it is no longer switched as soon as that keepalive does not run");
        for (int late = 8; late <= 10; late++) {
            MulticastTrees x = Nets.line(1, 0, 1, 2);
            x.join(2, 0, 0);
            x.send(0, 0);
            x.send(0, 0);
            due.is("switched", x.entry(2, 0, 0), 1 + 2 + 8 + 16);
            x.pass(late);
            due.is("no longer, after " + late, x.entry(2, 0, 0), 16);
            x.send(0, 0);
            due.is("the packet goes by the meeting point alone", x.crossings(), 1);
            due.is("joined, not switched", x.entry(2, 0, 0), 1 + 8 + 16);
        }
    }

    /** The meeting point is switched by the second packet, and then left out: its keepalive ends before the others. */
    private static void switchEndsAtOneRouter(Due due) {
        due.by("JOINS AND CUTS", "it is no longer switched as soon as that keepalive does not run");
        MulticastTrees x = square();
        x.join(2, 0, 0);
        x.send(3, 0);
        x.send(3, 0);
        due.is("R is switched", x.entry(0, 3, 0), 3);
        x.pass(5);
        x.send(3, 0);
        x.pass(2);
        due.is("R still is", x.entry(0, 3, 0), 3);
        x.pass(1);
        due.is("R no longer is", x.entry(0, 3, 0), 0);
        due.is("2 still is", x.entry(2, 3, 0), 1 + 2 + 4 + 8 + 16);
        due.is("3 still is", x.entry(3, 3, 0), 1 + 2 + 16);
        x.send(3, 0);
        due.is("a register sets its keepalive, and does not switch it", x.entry(0, 3, 0), 1);
    }

    private static void cutEndsWithTheSwitch(Due due) {
        due.by("JOINS AND CUTS", "it is no longer switched as soon as that keepalive does not run");
        MulticastTrees x = Nets.line(0, 0, 1, 2);
        x.join(1, 0, 0);
        x.send(2, 0);
        x.send(2, 0);
        x.pass(7);
        due.is("cut for a tick more", x.entry(1, 2, 0), 1 + 2 + 4 + 8 + 16);
        due.is("not withdrawn", x.messages(5), 0);
        x.pass(1);
        due.is("not cut", x.entry(1, 2, 0), 16);
        due.is("withdrawn", x.messages(5), 1);
    }

    private static void settledByCalls(Due due) {
        due.by("JOINS AND CUTS", "At the end of every call that changed something");
        MulticastTrees x = Nets.line(0, 0, 1);
        x.join(1, 0, 0);
        due.is("by join", x.shared(1, 0), 0);
        x.link(0, 1, 0);
        due.is("by link, that is gone", x.shared(1, 0), -1);
        x.link(0, 1, 2);
        due.is("by link, that is there", x.shared(1, 0), 0);
        x.send(0, 0);
        due.is("by send", x.entry(1, 0, 0), 1 + 8 + 16);
        x.pass(8);
        due.is("by pass", x.entry(1, 0, 0), 16);
        x.publish(0, 0, 1);
        x.emit(0);
        due.is("by emit", x.entry(1, 0, 0), 1 + 8 + 16);
    }

    /** Router 1 is cut when the mark of its LAN ends, and not any more when 2 is no longer cut from it. */
    private static void settledByTicks(Due due) {
        due.by("JOINS AND CUTS", "and of every tick, joins and cuts are SETTLED");
        MulticastTrees x = square();
        x.join(2, 0, 0);
        x.join(1, 0, 0);
        x.send(3, 0);
        x.send(3, 0);
        due.is("2 is cut", x.entry(2, 3, 0) & 4, 4);
        due.is("1 is not", x.entry(1, 3, 0) & 4, 0);
        due.is("one placed", x.messages(4), 1);
        x.leave(1, 0, 0, true);
        x.pass(10);
        due.is("2 is not cut", x.entry(2, 3, 0) & 4, 0);
        due.is("1 is not cut", x.entry(1, 3, 0) & 4, 0);
        due.is("one was placed on the way", x.messages(4), 2);
        due.is("both were withdrawn", x.messages(5), 2);
    }

    private static void sharedNeedsAHop(Due due) {
        due.by("JOINS AND CUTS", "The shared join of n for g is at HOP(n, R), if that is not NONE");
        MulticastTrees x = Nets.line(3, 3, 4);
        for (int n = 0; n < 6; n++) x.join(n, 0, 1);
        for (int n = 0; n < 6; n++) due.is("shared of " + n, x.shared(n, 1), n == 4 ? 3 : -1);
        due.is("one placed", x.messages(0), 1);
        x.link(0, 4, 1);
        due.is("connected later", x.shared(0, 1), 4);
    }

    private static void sharedByMarkOrRouter(Due due) {
        due.by("JOINS AND CUTS", "LAN n is marked for g; a router's shared join for g is at n.");
        MulticastTrees x = Nets.line(0, 0, 1, 2, 3);
        x.join(2, 0, 0);
        due.is("its LAN is marked", x.shared(2, 0), 1);
        due.is("a router's join is at it", x.shared(1, 0), 0);
        due.is("neither", x.shared(3, 0), -1);
        due.is("another group", x.shared(2, 1), -1);
        x.join(1, 0, 0);
        x.leave(2, 0, 0, true);
        x.pass(2);
        due.is("no mark any more", x.shared(2, 0), -1);
        due.is("a mark, and no router", x.shared(1, 0), 0);
    }

    private static void innerList(Due due) {
        due.by("JOINS AND CUTS", "every router whose shared join for g is at n and whose cut for (s, g) is not at n");
        MulticastTrees x = square();
        x.join(2, 0, 0);
        due.is("1 has 2", x.entry(1, 3, 0), 16);
        x.join(1, 0, 0);
        due.is("1 has LAN 1 and 2", x.entry(1, 3, 0), 32);
        x.send(3, 0);
        x.send(3, 0);
        due.is("1 has LAN 1, as 2 is cut", x.entry(1, 3, 0) / 16, 1);
        due.is("2 is not cut for another stream", x.entry(1, 4, 0), 32);
        due.is("nor for the source's other groups", x.entry(1, 3, 1), 0);
    }

    /** The routers 1, 2 and 4 are all between the meeting point 0 and the source 3. */
    private static void innerListOfSeveralCuts(Due due) {
        due.by("JOINS AND CUTS", "every router whose shared join for g is at n and whose cut for (s, g) is not at n");
        MulticastTrees x = new MulticastTrees(0);
        for (int n : new int[] {1, 2, 4}) {
            x.link(0, n, 1);
            x.link(n, 3, 1);
            x.join(n, 0, 0);
        }
        x.join(5, 0, 0);
        x.link(0, 5, 1);
        due.is("R has all four", x.entry(0, 3, 0), 64);
        x.send(3, 0);
        x.send(3, 0);
        due.is("three are cut", x.messages(4), 3);
        due.is("R has 5 alone", x.entry(0, 3, 0) / 16, 1);
        due.is("and all four for another stream", x.entry(0, 5, 0), 64);
    }

    /** Router 4 is only on the way from the source to 2: switched, its inner list empty, but without a shared join. */
    private static void cutNeedsTheSharedJoin(Due due) {
        due.by("JOINS AND CUTS", "The cut of n for (s, g) is at HOP(n, R), if the shared join of n for g is there");
        MulticastTrees x = Nets.line(0, 0, 1, 2, 4, 3);
        x.join(2, 0, 0);
        x.send(3, 0);
        x.send(3, 0);
        due.is("no shared join of 4", x.shared(4, 0), -1);
        due.is("4 is not cut", x.entry(4, 3, 0), 1 + 2 + 8 + 16);
        due.is("2 is", x.entry(2, 3, 0), 1 + 2 + 4 + 8 + 16);
        due.is("1 is", x.entry(1, 3, 0) & 4, 4);
        due.is("R, with an empty list, is not", x.entry(0, 3, 0), 1 + 2);
        due.is("two placed", x.messages(4), 2);
    }

    private static void cutOfAnEmptyList(Due due) {
        due.by("JOINS AND CUTS", "the inner list of n is empty");
        MulticastTrees x = square();
        x.join(2, 0, 0);
        x.send(3, 0);
        due.is("1 has 2", x.entry(1, 3, 0), 16);
        x.send(3, 0);
        due.is("1 has nothing, and was never switched", x.entry(1, 3, 0), 4);
        due.is("its shared join stays", x.shared(1, 0), 0);
        due.is("R has nothing", x.entry(0, 3, 0) / 16, 0);
        x.join(1, 0, 0);
        due.is("1 has its LAN", x.entry(1, 3, 0), 16);
        due.is("R has 1", x.entry(0, 3, 0) / 16, 1);
    }

    private static void cutOfASwitchedRouter(Due due) {
        due.by("JOINS AND CUTS", "n is switched for (s, g) and HOP(n, s) is not HOP(n, R)");
        MulticastTrees x = square();
        x.join(2, 0, 0);
        x.send(3, 0);
        due.is("not switched yet", x.entry(2, 3, 0), 1 + 8 + 16);
        due.is("no cut yet", x.messages(4), 0);
        x.send(3, 0);
        due.is("switched, by 3 and not by 1", x.entry(2, 3, 0), 1 + 2 + 4 + 8 + 16);
        x.link(1, 2, 0);
        due.is("now R is reached by 3 too", x.shared(2, 0), 3);
        due.is("so it is not cut", x.entry(2, 3, 0) & 6, 2);
    }

    private static void noCutIfHopsAreTheSame(Due due) {
        due.by("JOINS AND CUTS", "HOP(n, s) is not HOP(n, R)");
        MulticastTrees x = Nets.line(0, 3, 0, 1, 2);
        x.join(2, 0, 0);
        x.send(3, 0);
        x.send(3, 0);
        due.is("2 hears both by 1", x.entry(2, 3, 0), 1 + 2 + 8 + 16);
        due.is("1 hears both by 0", x.entry(1, 3, 0), 1 + 2 + 8 + 16);
        due.is("no cuts", x.messages(4), 0);
    }

    private static void cutIfTheSourceIsGone(Due due) {
        due.by("JOINS AND CUTS", "(it may be NONE)");
        MulticastTrees x = Nets.line(0, 2, 0, 1);
        x.join(1, 0, 0);
        x.send(2, 0);
        x.send(2, 0);
        due.is("both by 0, not cut", x.entry(1, 2, 0), 1 + 2 + 8 + 16);
        x.link(0, 2, 0);
        due.is("HOP(1, 2) is NONE, HOP(1, 0) is 0", x.entry(1, 2, 0), 1 + 2 + 4 + 16);
        x.link(0, 2, 1);
        due.is("both by 0 again", x.entry(1, 2, 0), 1 + 2 + 8 + 16);
    }

    private static void cutOfTheSource(Due due) {
        due.by("JOINS AND CUTS", "(it may be NONE)");
        MulticastTrees x = Nets.line(1, 0, 1);
        x.join(0, 0, 0);
        due.is("not switched", x.entry(0, 0, 0), 16);
        x.send(0, 0);
        due.is("the source itself", x.entry(0, 0, 0), 1 + 2 + 4 + 16);
        due.is("R has nothing", x.entry(1, 0, 0), 1);
    }

    private static void outerListHoldsEachOnce(Due due) {
        due.by("JOINS AND CUTS", "what is in the inner list, and every router whose source join for (s, g) is at n");
        MulticastTrees x = Nets.line(0, 0, 1, 2);
        x.join(2, 0, 0);
        x.send(0, 0);
        due.is("both joins of 1 are at 0", x.entry(0, 0, 0), 1 + 2 + 16);
        due.is("both joins of 2 are at 1", x.entry(1, 0, 0), 8 + 16);
        MulticastTrees y = Nets.line(2, 0, 1, 2);
        y.join(1, 0, 0);
        y.send(0, 0);
        due.is("LAN 1, and R by its source join alone", y.entry(1, 0, 0), 1 + 8 + 32);
        due.is("1 by its source join alone", y.entry(0, 0, 0), 1 + 16);
    }

    private static void sourceNeedsAHop(Due due) {
        due.by("JOINS AND CUTS", "The source join of n for (s, g) is at HOP(n, s), if that is not NONE");
        MulticastTrees x = Nets.line(0, 0, 1);
        x.join(0, 0, 0);
        x.join(1, 0, 0);
        x.send(0, 0);
        due.is("the source has a keepalive and a list", x.entry(0, 0, 0), 1 + 2 + 32);
        due.is("1 joins", x.entry(1, 0, 0), 1 + 8 + 16);
        x.link(0, 1, 0);
        due.is("not connected, with keepalive and list", x.entry(1, 0, 0), 1 + 16);
        x.link(0, 1, 3);
        due.is("connected again", x.entry(1, 0, 0), 1 + 8 + 16);
    }

    private static void sourceByRouter(Due due) {
        due.by("JOINS AND CUTS", "a router's source join for (s, g) is at n");
        MulticastTrees x = Nets.line(0, 3, 0, 1, 2);
        x.join(2, 0, 0);
        x.send(3, 0);
        due.is("1 has no keepalive", x.entry(1, 3, 0), 8 + 16);
        due.is("no other stream", x.entry(1, 4, 0), 16);
        x.leave(2, 0, 0, true);
        x.pass(1);
        due.is("while 2 has its LAN", x.entry(1, 3, 0), 8 + 16);
        x.pass(1);
        due.is("2 has nothing", x.entry(2, 3, 0), 1);
        due.is("and 1 has nothing", x.entry(1, 3, 0), 0);
    }

    private static void sourceByKeepaliveAndList(Due due) {
        due.by("JOINS AND CUTS", "the keepalive of n for (s, g) runs and the outer list of n is not empty");
        MulticastTrees x = Nets.line(0, 0, 1);
        x.send(1, 0);
        due.is("a keepalive, and no list", x.entry(0, 1, 0), 1);
        x.join(0, 0, 0);
        due.is("both", x.entry(0, 1, 0), 1 + 8 + 16);
        due.is("a list, and no keepalive", x.entry(0, 1, 1), 0);
        x.pass(7);
        due.is("both for a tick more", x.entry(0, 1, 0), 1 + 8 + 16);
        x.pass(1);
        due.is("the list alone", x.entry(0, 1, 0), 16);
        due.is("withdrawn", x.messages(3), 1);
    }

    private static void told(Due due, String what, MulticastTrees x, int kind, int placed, int withdrawn) {
        due.is(what + ": placed", x.messages(kind), placed);
        due.is(what + ": withdrawn", x.messages(kind + 1), withdrawn);
    }

    private static void sharedMessages(Due due) {
        due.by("MESSAGES", TOLD);
        MulticastTrees x = Nets.line(0, 0, 1);
        x.join(1, 0, 0);
        told(due, "from nowhere", x, 0, 1, 0);
        x.join(1, 1, 0);
        x.pass(5);
        x.link(0, 1, 9);
        told(due, "where it was", x, 0, 1, 0);
        x.link(2, 0, 1);
        x.link(2, 1, 1);
        due.is("1 moved to 2", x.shared(1, 0), 2);
        told(due, "1 from 0, where a link is, and 2 from nowhere", x, 0, 3, 1);
        x.link(2, 1, 0);
        told(due, "1 back, where a link is not; 2 to nowhere, where one is", x, 0, 4, 2);
        x.link(0, 1, 0);
        told(due, "to nowhere, where a link is not", x, 0, 4, 2);
        x.link(0, 1, 2);
        told(due, "from nowhere again", x, 0, 5, 2);
        x.leave(1, 0, 0, false);
        x.leave(1, 1, 0, false);
        x.pass(10);
        x.pass(2);
        told(due, "to nowhere, where a link is", x, 0, 5, 3);
    }

    private static void sourceMessages(Due due) {
        due.by("MESSAGES", TOLD);
        MulticastTrees x = Nets.line(0, 0, 1);
        x.join(1, 0, 0);
        told(due, "no packet", x, 2, 0, 0);
        x.send(0, 0);
        told(due, "from nowhere", x, 2, 1, 0);
        x.send(0, 0);
        x.link(0, 1, 9);
        told(due, "where it was", x, 2, 1, 0);
        x.link(2, 0, 1);
        x.link(2, 1, 1);
        told(due, "1 from 0, where a link is, and 2 from nowhere", x, 2, 3, 1);
        x.link(2, 1, 0);
        told(due, "1 back, where a link is not; 2 to nowhere, where one is", x, 2, 4, 2);
        x.pass(8);
        told(due, "to nowhere, where a link is", x, 2, 4, 3);
        x.send(0, 0);
        told(due, "from nowhere again", x, 2, 5, 3);
        x.link(0, 1, 0);
        told(due, "to nowhere, where a link is not", x, 2, 5, 3);
    }

    private static void cutMessages(Due due) {
        due.by("MESSAGES", TOLD);
        MulticastTrees x = Nets.line(0, 0, 1, 2);
        x.join(1, 0, 0);
        x.send(2, 0);
        told(due, "not switched", x, 4, 0, 0);
        x.send(2, 0);
        told(due, "from nowhere", x, 4, 1, 0);
        x.send(2, 0);
        x.link(0, 1, 9);
        told(due, "where it was", x, 4, 1, 0);
        x.link(3, 0, 1);
        x.link(3, 1, 1);
        due.is("1 moved to 3", x.shared(1, 0), 3);
        told(due, "1 from 0, where a link is, and 3 from nowhere", x, 4, 3, 1);
        x.link(3, 1, 0);
        told(due, "1 back, where a link is not; 3 to nowhere, where one is", x, 4, 4, 2);
        x.pass(8);
        told(due, "to nowhere, where a link is", x, 4, 4, 3);
        x.send(2, 0);
        x.send(2, 0);
        told(due, "from nowhere again", x, 4, 5, 3);
        x.link(0, 1, 0);
        told(due, "to nowhere, where a link is not", x, 4, 5, 3);
    }
}
