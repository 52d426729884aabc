/**
 * Promises 5 to 8 and 14: join, leave, marked, pass, shared; and the messages 0 and 1 of promise 16. The boundary
 * cases are in MembersEdgesTest and TreesEdgesTest.
 */
public final class MembersTest {
    public static void main(String[] args) {
        Due due = new Due();
        joinAnswers(due);
        leaveTells(due);
        leaveSilently(due);
        leaveAtTheEnd(due);
        reports(due);
        reporterChanges(due);
        sharedJoins(due);
        sharedMoves(due);
        sharedTicks(due);
        due.end();
    }

    private static void joinAnswers(Due due) {
        MulticastTrees x = new MulticastTrees(0);
        for (int h = 0; h < 4; h++) {
            due.yes("join of host " + h, x.join(5, h, 2));
            due.no("join again of host " + h, x.join(5, h, 2));
        }
        due.is("marked", x.marked(5, 2), 12);
        due.is("another group", x.marked(5, 1), 0);
        due.is("another LAN", x.marked(4, 2), 0);
        due.yes("another group", x.join(5, 0, 1));
        x.pass(2);
        due.is("marked for less", x.marked(5, 2), 10);
        due.yes("one leaves", x.leave(5, 1, 2, false));
        due.yes("and comes back", x.join(5, 1, 2));
        due.is("it reports", x.marked(5, 2), 12);
        due.is("for its group alone", x.marked(5, 1), 10);
    }

    private static void leaveTells(Due due) {
        MulticastTrees x = new MulticastTrees(0);
        x.join(1, 0, 0);
        x.join(1, 2, 0);
        x.join(1, 3, 0);
        x.pass(4);
        due.yes("one that is not the reporter tells", x.leave(1, 0, 0, true));
        due.is("nobody reports", x.marked(1, 0), 8);
        due.yes("the reporter tells", x.leave(1, 3, 0, true));
        due.is("another reports", x.marked(1, 0), 12);
        due.yes("that one is the reporter now", x.leave(1, 2, 0, true));
        due.is("the last is gone", x.marked(1, 0), 2);
        x.pass(1);
        due.is("nobody is there to report", x.marked(1, 0), 1);
        x.pass(1);
        due.is("no longer marked", x.marked(1, 0), 0);
        x.pass(1);
        due.is("nor later", x.marked(1, 0), 0);
    }

    private static void leaveSilently(Due due) {
        MulticastTrees x = new MulticastTrees(0);
        x.join(2, 0, 1);
        x.join(2, 1, 1);
        due.yes("the reporter leaves silently", x.leave(2, 1, 1, false));
        x.pass(1);
        due.yes("the other tells, but 1 is still the reporter", x.leave(2, 0, 1, true));
        due.is("so nothing happens", x.marked(2, 1), 11);
        x.pass(10);
        due.is("until it ends", x.marked(2, 1), 1);
        x.pass(1);
        due.is("it ended", x.marked(2, 1), 0);
    }

    private static void leaveAtTheEnd(Due due) {
        MulticastTrees x = new MulticastTrees(0);
        x.join(3, 3, 0);
        x.join(3, 2, 0);
        x.leave(3, 3, 0, false);
        x.leave(3, 2, 0, false);
        x.pass(10);
        due.is("two are left", x.marked(3, 0), 2);
        x.pass(1);
        x.join(3, 2, 0);
        x.pass(3);
        x.leave(3, 2, 0, false);
        due.is("nine are left", x.marked(3, 0), 9);

        MulticastTrees y = new MulticastTrees(0);
        y.join(0, 0, 0);
        y.leave(0, 0, 0, true);
        y.pass(1);
        y.join(0, 1, 0);
        y.leave(0, 1, 0, true);
        due.is("down to two", y.marked(0, 0), 2);
    }

    private static void reports(Due due) {
        MulticastTrees x = new MulticastTrees(0);
        x.pass(3);
        x.join(5, 3, 2);
        x.join(0, 1, 0);
        x.pass(1);
        due.is("at 4", x.marked(5, 2), 11);
        x.pass(1);
        due.is("at 5", x.marked(5, 2), 12);
        due.is("at 5, the other LAN", x.marked(0, 0), 12);
        x.pass(4);
        due.is("at 9", x.marked(5, 2), 8);
        x.pass(10);
        due.is("at 19, from 15 on", x.marked(5, 2), 8);
        x.leave(5, 3, 2, false);
        x.pass(1);
        due.is("at 20 no member reports", x.marked(5, 2), 7);
        due.is("at 20 the other does", x.marked(0, 0), 12);
    }

    private static void reporterChanges(Due due) {
        MulticastTrees x = new MulticastTrees(0);
        x.join(1, 1, 0);
        x.join(1, 2, 0);
        x.join(1, 3, 0);
        x.pass(5);
        x.pass(1);
        due.yes("3 is no longer the reporter", x.leave(1, 3, 0, true));
        due.is("nothing happens", x.marked(1, 0), 11);
        due.yes("1 is, the lowest", x.leave(1, 1, 0, true));
        due.is("2 reports", x.marked(1, 0), 12);
    }

    private static void sharedJoins(Due due) {
        MulticastTrees x = new MulticastTrees(2);
        x.link(2, 1, 1);
        x.link(1, 0, 1);
        x.link(0, 5, 1);
        x.join(5, 0, 1);
        due.is("5 at 0", x.shared(5, 1), 0);
        due.is("0 at 1", x.shared(0, 1), 1);
        due.is("1 at 2", x.shared(1, 1), 2);
        due.is("the meeting point", x.shared(2, 1), -1);
        due.is("a router that is not connected", x.shared(3, 1), -1);
        due.is("another group", x.shared(5, 0), -1);
        due.is("placed", x.messages(0), 3);
        x.join(0, 0, 1);
        due.is("no new ones", x.messages(0), 3);
        x.join(2, 0, 1);
        due.is("nor from the meeting point", x.messages(0), 3);
        x.join(3, 0, 1);
        due.is("nor from one not connected", x.shared(3, 1), -1);
        x.leave(5, 0, 1, true);
        x.pass(2);
        due.is("5 nowhere", x.shared(5, 1), -1);
        due.is("0 still at 1", x.shared(0, 1), 1);
        due.is("withdrawn", x.messages(1), 1);
        x.link(3, 5, 1);
        due.is("3 at 5 when connected", x.shared(3, 1), 5);
        due.is("5 at 0 again, for 3", x.shared(5, 1), 0);
        due.is("placed then", x.messages(0), 5);
    }

    private static void sharedMoves(Due due) {
        MulticastTrees x = new MulticastTrees(0);
        x.link(0, 1, 9);
        x.join(1, 0, 0);
        x.link(2, 0, 1);
        due.is("nothing moves", x.messages(0), 1);
        x.link(1, 2, 1);
        due.is("1 moves to 2", x.shared(1, 0), 2);
        due.is("2 joins", x.shared(2, 0), 0);
        due.is("two placed", x.messages(0), 3);
        due.is("one withdrawn along the link that is still there", x.messages(1), 1);
        x.link(1, 2, 0);
        due.is("1 back at 0", x.shared(1, 0), 0);
        due.is("placed", x.messages(0), 4);
        due.is("withdrawn by 2, not along the link that is gone", x.messages(1), 2);
        x.link(0, 1, 0);
        due.is("nowhere", x.shared(1, 0), -1);
        due.is("nothing placed", x.messages(0), 4);
        due.is("nothing withdrawn, the link is gone", x.messages(1), 2);
    }

    private static void sharedTicks(Due due) {
        MulticastTrees x = new MulticastTrees(0);
        x.link(0, 1, 1);
        x.join(1, 0, 0);
        x.leave(1, 0, 0, true);
        x.pass(1);
        due.is("still there", x.shared(1, 0), 0);
        x.pass(1);
        due.is("gone with the mark", x.shared(1, 0), -1);
        due.is("placed", x.messages(0), 1);
        due.is("withdrawn", x.messages(1), 1);
    }
}
