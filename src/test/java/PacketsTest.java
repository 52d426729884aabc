/**
 * Promises 9 to 13 and 15 to 17: send, crossings, drops, reached, heard, entry, messages, lose. The boundary cases
 * are in PacketsEdgesTest and TreesEdgesTest.
 */
public final class PacketsTest {
    public static void main(String[] args) {
        Due due = new Due();
        registersAndStops(due);
        registersNeedAWay(due);
        keepalives(due);
        fiveStreams(due);
        sharedThenSource(due);
        keepaliveOfCarriers(due);
        ownLan(due);
        sourceIsMeetingPoint(due);
        switchEnds(due);
        cutsAside(due);
        cutsOfEmptyLists(due);
        cutWhereSourceIsGone(due);
        dropsAtTheSource(due);
        cutEndsWithItsReason(due);
        sourceIsCut(due);
        notBackWhereItCameFrom(due);
        losses(due);
        due.end();
    }

    private static void latest(Due due, String what, MulticastTrees x, int crossings, int drops, int reached) {
        due.is(what + ": crossings", x.crossings(), crossings);
        due.is(what + ": drops", x.drops(), drops);
        due.is(what + ": reached", x.reached(), reached);
    }

    private static void registersAndStops(Due due) {
        MulticastTrees x = Nets.line(0, 0, 1);
        due.is("nobody hears", x.send(1, 0), 0);
        latest(due, "no member", x, 0, 0, 0);
        due.is("a register", x.messages(6), 1);
        due.is("a stop, as the list is empty", x.messages(7), 1);
        due.is("keepalive of s", x.entry(1, 1, 0), 1);
        due.is("keepalive of R", x.entry(0, 1, 0), 1);
        x.send(1, 0);
        due.is("quiet at 0", x.messages(6), 1);
        x.pass(5);
        x.send(1, 0);
        due.is("quiet at 5", x.messages(6), 1);
        x.send(1, 1);
        due.is("another stream is not quiet", x.messages(6), 2);
        x.pass(1);
        x.send(1, 0);
        due.is("not at 6", x.messages(6), 3);
        due.is("a stop again", x.messages(7), 3);
    }

    private static void registersNeedAWay(Due due) {
        MulticastTrees x = new MulticastTrees(0);
        x.join(0, 0, 0);
        due.is("no way to R", x.send(1, 0), 0);
        due.is("no register", x.messages(6), 0);
        due.is("keepalive of s alone", x.entry(1, 1, 0), 1);
        due.is("not of R", x.entry(0, 1, 0), 16);
        due.is("R itself sends", x.send(0, 0), 1);
        due.is("no register from R", x.messages(6), 0);
        x.link(0, 1, 1);
        due.is("a way", x.send(1, 0), 1);
        due.is("one register", x.messages(6), 1);
        due.is("no stop, LAN 0 is there", x.messages(7), 0);
        latest(due, "to LAN 0", x, 0, 0, 1);
    }

    private static void keepalives(Due due) {
        MulticastTrees x = new MulticastTrees(0);
        x.send(3, 2);
        x.pass(7);
        due.is("runs for 7", x.entry(3, 3, 2), 1);
        x.pass(1);
        due.is("not for 8", x.entry(3, 3, 2), 0);
        x.send(3, 2);
        x.pass(4);
        x.send(3, 2);
        x.pass(7);
        due.is("renewed", x.entry(3, 3, 2), 1);
        x.pass(1);
        due.is("ended", x.entry(3, 3, 2), 0);
    }

    private static void fiveStreams(Due due) {
        MulticastTrees x = Nets.line(0, 0, 1);
        x.join(0, 0, 0);
        x.send(0, 1);
        x.send(0, 2);
        x.send(1, 1);
        x.pass(1);
        x.send(1, 2);
        due.is("the fifth", x.send(1, 0), 1);
        due.is("a sixth", x.send(2, 0), -1);
        due.is("nothing is changed", x.entry(2, 2, 0), 0);
        due.is("the latest is the fifth", x.reached(), 1);
        due.is("and was heard", x.heard(), 1);
        due.is("one of the five", x.send(0, 1), 0);
        x.pass(6);
        due.is("at 7 all run", x.send(2, 0), -1);
        x.pass(1);
        due.is("at 8 two have ended", x.send(2, 0), 0);
        due.is("and another", x.send(2, 1), 0);
        due.is("and no more", x.send(2, 2), -1);
    }

    private static void sharedThenSource(Due due) {
        MulticastTrees x = Nets.line(1, 0, 1, 2);
        x.join(2, 0, 0);
        due.is("by the meeting point", x.send(0, 0), 1);
        latest(due, "first", x, 1, 0, 4);
        due.is("no stop", x.messages(7), 0);
        due.is("source joins", x.messages(2), 2);
        due.is("no cuts", x.messages(4), 0);
        due.is("entry of 2", x.entry(2, 0, 0), 1 + 8 + 16);
        due.is("entry of 1", x.entry(1, 0, 0), 1 + 8 + 16);
        due.is("entry of 0", x.entry(0, 0, 0), 1 + 16);
        due.is("from the source", x.send(0, 0), 1);
        latest(due, "second", x, 2, 0, 4);
        due.is("registers", x.messages(6), 2);
        due.is("a stop, as R is switched", x.messages(7), 1);
        due.is("switched 2, not cut", x.entry(2, 0, 0), 3 + 8 + 16);
        due.is("switched 1", x.entry(1, 0, 0), 3 + 8 + 16);
        due.is("switched 0", x.entry(0, 0, 0), 3 + 16);
        x.send(0, 0);
        due.is("quiet now", x.messages(6), 2);
        x.pass(8);
        due.is("all ended", x.entry(1, 0, 0), 16);
        due.is("withdrawn", x.messages(3), 2);
    }

    private static void keepaliveOfCarriers(Due due) {
        MulticastTrees x = Nets.line(0, 3, 0, 1, 2);
        x.join(2, 0, 0);
        due.is("heard on LAN 2", x.send(3, 0), 1);
        latest(due, "by 0, 1, 2", x, 2, 0, 4);
        due.is("1 only handed on", x.entry(1, 3, 0), 8 + 16);
        due.is("2 has a member", x.entry(2, 3, 0), 1 + 8 + 16);
        due.is("0 had the register", x.entry(0, 3, 0), 1 + 8 + 16);
        due.is("another stream of the group", x.entry(2, 4, 0), 16);
        due.is("another group of the source", x.entry(2, 3, 1), 0);
    }

    private static void ownLan(Due due) {
        MulticastTrees x = Nets.line(1, 0, 1, 2);
        x.join(0, 0, 0);
        x.join(2, 0, 0);
        due.is("both LANs", x.send(0, 0), 2);
        latest(due, "both", x, 2, 1, 5);
        MulticastTrees y = new MulticastTrees(1);
        y.join(0, 0, 0);
        due.is("the own LAN alone", y.send(0, 0), 1);
        latest(due, "alone", y, 0, 0, 1);
        due.is("s carried it", y.entry(0, 0, 0), 3 + 16);
        due.is("an unmarked LAN of its own", y.send(0, 1), 0);
        latest(due, "unmarked", y, 0, 0, 0);
    }

    private static void sourceIsMeetingPoint(Due due) {
        MulticastTrees x = Nets.line(0, 0, 1, 2);
        x.join(2, 0, 0);
        due.is("down the shared tree", x.send(0, 0), 1);
        latest(due, "down", x, 2, 0, 4);
        due.is("no register", x.messages(6), 0);
        due.is("s is switched", x.entry(0, 0, 0), 3 + 16);
        due.is("1 has no keepalive", x.entry(1, 0, 0), 8 + 16);
        x.send(0, 0);
        due.is("no cut, both ways are one", x.entry(2, 0, 0), 3 + 8 + 16);
    }

    private static void switchEnds(Due due) {
        MulticastTrees x = new MulticastTrees(0);
        x.join(1, 0, 0);
        x.send(1, 0);
        due.is("switched with its LAN", x.entry(1, 1, 0), 3 + 16);
        x.leave(1, 0, 0, true);
        x.pass(7);
        due.is("the list is empty, but it is switched", x.entry(1, 1, 0), 3);
        x.send(1, 0);
        due.is("it stays so while it is renewed", x.entry(1, 1, 0), 3);
        x.pass(8);
        due.is("ended", x.entry(1, 1, 0), 0);
        x.send(1, 0);
        due.is("a new keepalive does not switch", x.entry(1, 1, 0), 1);
    }

    /** A square 0-1-2-3 with the meeting point 0: router 2 hears the source 3 nearer than the meeting point. */
    private static void cutsAside(Due due) {
        MulticastTrees x = Nets.line(0, 0, 1, 2, 3, 0);
        x.join(2, 0, 0);
        due.is("the lower way to R", x.shared(2, 0), 1);
        x.send(3, 0);
        latest(due, "shared", x, 2, 0, 4);
        due.is("not switched yet", x.messages(4), 0);
        due.is("2, 0 and nothing else join", x.messages(2), 2);
        x.send(3, 0);
        latest(due, "by both sides, R switched", x, 4, 1, 4);
        due.is("2 is cut", x.entry(2, 3, 0), 1 + 2 + 4 + 8 + 16);
        due.is("1 is cut, its list is empty", x.entry(1, 3, 0), 4);
        due.is("two cuts", x.messages(4), 2);
        due.is("R has nobody", x.entry(0, 3, 0), 1 + 2);
        due.is("R withdraws its source join", x.messages(3), 1);
        due.is("the source has 2 alone", x.entry(3, 3, 0), 1 + 2 + 16);
        x.send(3, 0);
        latest(due, "the short way", x, 1, 0, 4);
        due.is("the shared join stays", x.shared(2, 0), 1);
        x.pass(8);
        due.is("cuts withdrawn", x.messages(5), 2);
        due.is("1 has 2 again", x.entry(1, 3, 0), 16);
    }

    private static void cutsOfEmptyLists(Due due) {
        MulticastTrees x = Nets.line(0, 0, 1, 2, 3, 0);
        x.join(2, 0, 0);
        x.join(1, 0, 0);
        x.send(3, 0);
        x.send(3, 0);
        due.is("2 is cut", x.entry(2, 3, 0) & 4, 4);
        due.is("1 is not, its LAN is marked", x.entry(1, 3, 0) & 4, 0);
        due.is("its list is LAN 1", x.entry(1, 3, 0) / 16, 1);
        x.leave(1, 0, 0, true);
        due.is("still marked", x.entry(1, 3, 0) & 4, 0);
        x.pass(2);
        due.is("then its list is empty", x.entry(1, 3, 0), 1 + 2 + 4);
    }

    private static void cutWhereSourceIsGone(Due due) {
        MulticastTrees x = Nets.line(0, 0, 1, 2);
        x.join(1, 0, 0);
        x.send(2, 0);
        x.send(2, 0);
        due.is("1 is cut from R", x.entry(1, 2, 0), 1 + 2 + 4 + 8 + 16);
        x.link(1, 2, 0);
        due.is("cut too while the source is not connected", x.entry(1, 2, 0), 1 + 2 + 4 + 16);
        due.is("no source join is withdrawn along a link that is gone", x.messages(3), 1);
        due.is("nobody hears", x.send(2, 0), 0);
        latest(due, "not connected", x, 0, 0, 0);
    }

    private static void dropsAtTheSource(Due due) {
        MulticastTrees x = Nets.line(0, 0, 1, 2);
        x.join(2, 0, 0);
        due.is("1 sends", x.send(1, 0), 1);
        latest(due, "1 to 2, and R back to 1", x, 2, 1, 4);
        due.is("s joins no source", x.entry(1, 1, 0), 1 + 2 + 4 + 16);
    }

    private static void cutEndsWithItsReason(Due due) {
        MulticastTrees x = Nets.line(0, 0, 1, 2, 3, 0);
        x.join(1, 0, 0);
        x.join(2, 0, 0);
        x.send(2, 0);
        x.send(2, 0);
        due.is("1 is switched and cut", x.entry(1, 2, 0) & 6, 6);
        x.link(2, 1, 9);
        due.is("1 hears the source by R now, so it is not cut", x.entry(1, 2, 0) & 6, 2);
        due.is("it is heard", x.send(2, 0), 2);
        latest(due, "round", x, 3, 0, 6);
    }

    private static void sourceIsCut(Due due) {
        MulticastTrees x = Nets.line(1, 0, 1, 2);
        x.join(0, 0, 0);
        x.join(2, 0, 0);
        x.send(0, 0);
        x.send(0, 0);
        due.is("s is cut from R", x.entry(0, 0, 0) & 4, 4);
        due.is("R has 2 alone", x.entry(1, 0, 0) / 16, 1);
    }

    /** At the second packet R took it from 1, which is switched by then, but still in the list of R. */
    private static void notBackWhereItCameFrom(Due due) {
        MulticastTrees x = Nets.line(2, 0, 1, 2);
        x.join(1, 0, 0);
        x.send(0, 0);
        latest(due, "R to 1", x, 1, 0, 2);
        due.is("R joins at 1", x.entry(2, 0, 0), 1 + 8 + 16);
        due.is("1 has its LAN and R", x.entry(1, 0, 0), 1 + 8 + 32);
        x.send(0, 0);
        latest(due, "s to 1 to R, and not back", x, 2, 0, 2);
        due.is("1 is cut from R", x.entry(1, 0, 0), 1 + 2 + 4 + 8 + 16);
        due.is("R has nobody", x.entry(2, 0, 0), 1 + 2);
        x.send(0, 0);
        latest(due, "s to 1", x, 1, 0, 2);
    }

    private static void losses(Due due) {
        MulticastTrees x = Nets.line(0, 0, 1, 2);
        x.join(1, 0, 0);
        x.join(2, 0, 0);
        due.yes("two at 2", x.lose(2, 2));
        due.yes("one at 0, which is not reached", x.lose(0, 1));
        due.is("1 hears", x.send(0, 0), 1);
        due.is("reached", x.reached(), 6);
        due.is("heard", x.heard(), 2);
        x.lose(1, 1);
        due.is("none hears", x.send(0, 0), 0);
        due.is("none heard", x.heard(), 0);
        due.is("both were reached", x.reached(), 6);
        due.is("both hear", x.send(0, 0), 2);
        due.is("both heard", x.heard(), 6);
        x.join(0, 0, 0);
        due.is("0 had a loss left", x.send(0, 0), 2);
        due.is("but was reached", x.reached(), 7);
        due.is("and hears then", x.send(0, 0), 3);
        x.lose(2, 9);
        x.lose(2, 0);
        due.is("losses set to 0", x.send(0, 0), 3);
        x.lose(2, 9);
        for (int k = 0; k < 9; k++) due.is("loss " + k, x.send(0, 0), 2);
        due.is("after nine", x.send(0, 0), 3);
    }
}
