/** The sentences on boundary cases of the term MEMBERS and of the promises 5 to 8 and 14, one after the other. */
public final class MembersEdgesTest {
    public static void main(String[] args) {
        Due due = new Due();
        clockIsNoughtAtFirst(due);
        noMembersAtFirst(due);
        firstAndLast(due);
        markedWhileLess(due);
        reportLastsTwelve(due);
        joinOfNothing(due);
        joinOfAMember(due);
        leaveOfReporterWithOthers(due);
        othersAreOfGroupAndLan(due);
        leaveOfReporterAlone(due);
        leaveOfAnotherHost(due);
        leaveWithoutTelling(due);
        stillTheReporter(due);
        leaveOfNothing(due);
        leaveOfNoMember(due);
        markedCounts(due);
        notMarked(due);
        markedOfNothing(due);
        ticksOutside(due);
        leastAndMostTicks(due);
        multiplesOfFive(due);
        multiplesOfFiveWithin(due);
        lowestMemberReports(due);
        whereThereIsOne(due);
        lateClock(due);
        sharedIsNowhere(due);
        sharedOfNothing(due);
        due.end();
    }

    private static void clockIsNoughtAtFirst(Due due) {
        due.by("NET", "The CLOCK is 0 at first.");
        MulticastTrees x = new MulticastTrees(0);
        x.join(0, 0, 0);
        x.pass(4);
        due.is("four ticks make it 4", x.marked(0, 0), 8);
        x.pass(1);
        due.is("and one more 5, when the member reports", x.marked(0, 0), 12);
    }

    private static void noMembersAtFirst(Due due) {
        due.by("MEMBERS", "A host is a MEMBER of a group or not (at first none is).");
        MulticastTrees x = new MulticastTrees(0);
        for (int l = 0; l < 6; l++) {
            for (int h = 0; h < 4; h++) {
                for (int g = 0; g < 3; g++) due.no("leave " + l + " " + h + " " + g, x.leave(l, h, g, true));
            }
        }
    }

    private static void firstAndLast(Due due) {
        due.by("NET", "each with a LAN of the same number with four HOSTS 0 .. 3 on it");
        MulticastTrees x = new MulticastTrees(0);
        for (int l = 0; l < 6; l++) {
            for (int h = 0; h < 4; h++) {
                for (int g = 0; g < 3; g++) due.yes("join " + l + " " + h + " " + g, x.join(l, h, g));
            }
        }
        for (int l = 0; l < 6; l++) {
            for (int h = 0; h < 4; h++) {
                for (int g = 0; g < 3; g++) due.yes("leave " + l + " " + h + " " + g, x.leave(l, h, g, true));
            }
        }
    }

    private static void markedWhileLess(Due due) {
        due.by("MEMBERS", "a time UNTIL (0 at first), and is MARKED while the clock is less than it");
        MulticastTrees x = Nets.line(0, 0, 1);
        due.is("at first", x.marked(1, 0), 0);
        x.join(1, 0, 0);
        x.leave(1, 0, 0, false);
        x.pass(10);
        x.pass(1);
        due.is("the clock is one less", x.marked(1, 0), 1);
        due.is("a shared join", x.shared(1, 0), 0);
        due.is("in its list", x.entry(1, 1, 0), 16);
        x.pass(1);
        due.is("the clock is as much", x.marked(1, 0), 0);
        due.is("no shared join", x.shared(1, 0), -1);
        due.is("not in its list", x.entry(1, 1, 0), 0);
        due.is("not reached", x.send(1, 0), 0);
    }

    private static void reportLastsTwelve(Due due) {
        due.by("MEMBERS", "UNTIL of its LAN becomes clock + 12");
        for (int t = 1; t < 10; t++) {
            MulticastTrees x = new MulticastTrees(0);
            x.pass(t);
            x.join(3, 2, 1);
            due.is("at clock " + t, x.marked(3, 1), 12);
            due.is("for no other group", x.marked(3, 0), 0);
            due.is("on no other LAN", x.marked(2, 1), 0);
        }
    }

    private static void joinOfNothing(Due due) {
        due.by("Promise 5", "False, if one of them does not exist");
        MulticastTrees x = new MulticastTrees(0);
        for (int wrong : Outside.ROUTERS) due.no("LAN " + wrong, x.join(wrong, 1, 1));
        for (int wrong : Outside.HOSTS) due.no("host " + wrong, x.join(1, wrong, 1));
        for (int wrong : Outside.GROUPS) due.no("group " + wrong, x.join(1, 1, wrong));
        for (int l = 0; l < 6; l++) {
            for (int g = 0; g < 3; g++) due.is("marked " + l + " " + g, x.marked(l, g), 0);
        }
    }

    private static void joinOfAMember(Due due) {
        due.by("Promise 5", "or the host is a member already");
        MulticastTrees x = new MulticastTrees(0);
        x.join(4, 0, 2);
        x.join(4, 1, 2);
        x.pass(2);
        due.no("again", x.join(4, 0, 2));
        due.is("it does not report", x.marked(4, 2), 10);
        due.yes("nor is it the reporter", x.leave(4, 0, 2, true));
        due.is("so nothing happens", x.marked(4, 2), 10);
        due.yes("no longer a member", x.join(4, 0, 2));
        due.is("it reports", x.marked(4, 2), 12);
        due.yes("another group", x.join(4, 0, 1));
        due.yes("another LAN", x.join(5, 0, 2));
    }

    private static void leaveOfReporterWithOthers(Due due) {
        due.by("Promise 6", "if there are other members of g on the LAN, the lowest-numbered of them reports");
        MulticastTrees x = new MulticastTrees(0);
        x.join(1, 2, 0);
        x.join(1, 3, 0);
        x.join(1, 1, 0);
        x.join(1, 0, 0);
        x.pass(3);
        x.leave(1, 0, 0, true);
        due.is("1 reports", x.marked(1, 0), 12);
        x.pass(1);
        x.leave(1, 3, 0, true);
        due.is("3 is not the reporter", x.marked(1, 0), 11);
        x.leave(1, 1, 0, true);
        due.is("1 was, and 2 reports", x.marked(1, 0), 12);
        x.leave(1, 2, 0, true);
        due.is("2 was, and is the last", x.marked(1, 0), 2);
    }

    private static void othersAreOfGroupAndLan(Due due) {
        due.by("Promise 6", "if there are other members of g on the LAN");
        MulticastTrees x = new MulticastTrees(0);
        x.join(1, 1, 1);
        x.join(2, 0, 0);
        x.join(1, 0, 0);
        x.leave(1, 0, 0, true);
        due.is("nobody else is", x.marked(1, 0), 2);
        due.is("the other group", x.marked(1, 1), 12);
        due.is("the other LAN", x.marked(2, 0), 12);
    }

    /** A member's LAN is always marked for 8 ticks or more, as there is a report every 5: UNTIL is always more. */
    private static void leaveOfReporterAlone(Due due) {
        due.by("Promise 6", "UNTIL becomes clock + 2, if it is more than that");
        for (int t = 1; t <= 10; t++) {
            MulticastTrees x = Nets.line(0, 0, 1);
            x.join(1, 3, 0);
            x.pass(t);
            due.is("after " + t + ", before", x.marked(1, 0), t < 5 ? 12 - t : t < 10 ? 17 - t : 12);
            x.leave(1, 3, 0, true);
            due.is("after " + t, x.marked(1, 0), 2);
            x.pass(1);
            due.is("a tick later", x.marked(1, 0), 1);
            due.is("and still joined", x.shared(1, 0), 0);
            due.no("it has left", x.leave(1, 3, 0, true));
            due.is("UNTIL stays as it is", x.marked(1, 0), 1);
            x.pass(1);
            due.is("two ticks later", x.marked(1, 0), 0);
            due.is("no longer joined", x.shared(1, 0), -1);
        }
    }

    private static void leaveOfAnotherHost(Due due) {
        due.by("Promise 6", "If it is the reporter and it tells so");
        MulticastTrees x = new MulticastTrees(0);
        x.join(1, 0, 0);
        x.join(1, 1, 0);
        x.pass(4);
        due.yes("0 is not the reporter", x.leave(1, 0, 0, true));
        due.is("nobody reports", x.marked(1, 0), 8);
        due.yes("1 is", x.leave(1, 1, 0, true));
        due.is("the last one", x.marked(1, 0), 2);
    }

    private static void leaveWithoutTelling(Due due) {
        due.by("Promise 6", "Otherwise nothing else happens");
        MulticastTrees x = new MulticastTrees(0);
        x.join(1, 0, 0);
        x.join(1, 1, 0);
        x.pass(4);
        due.yes("the reporter says nothing", x.leave(1, 1, 0, false));
        due.is("nobody reports", x.marked(1, 0), 8);
        due.yes("nor does the last", x.leave(1, 0, 0, false));
        due.is("the mark stays", x.marked(1, 0), 8);
        x.pass(1);
        due.is("nobody is there to report", x.marked(1, 0), 7);
        x.pass(7);
        due.is("until it ends", x.marked(1, 0), 0);
    }

    private static void stillTheReporter(Due due) {
        due.by("Promise 6", "(it is still the reporter, if it was)");
        MulticastTrees x = new MulticastTrees(0);
        x.join(1, 0, 0);
        x.join(1, 1, 0);
        x.leave(1, 1, 0, false);
        x.pass(1);
        due.yes("0 tells, but is not the reporter", x.leave(1, 0, 0, true));
        due.is("so the mark stays", x.marked(1, 0), 11);

        MulticastTrees y = new MulticastTrees(0);
        y.join(1, 1, 0);
        y.join(1, 0, 0);
        y.leave(1, 1, 0, false);
        y.pass(1);
        due.yes("0 is still the reporter, though another left", y.leave(1, 0, 0, true));
        due.is("so the mark ends", y.marked(1, 0), 2);
    }

    private static void leaveOfNothing(Due due) {
        due.by("Promise 6", "False, if one of them does not exist");
        MulticastTrees x = new MulticastTrees(0);
        for (int l = 0; l < 6; l++) {
            for (int g = 0; g < 3; g++) x.join(l, 0, g);
        }
        for (boolean tells : new boolean[] {false, true}) {
            for (int wrong : Outside.ROUTERS) due.no("LAN " + wrong, x.leave(wrong, 0, 0, tells));
            for (int wrong : Outside.HOSTS) due.no("host " + wrong, x.leave(1, wrong, 0, tells));
            for (int wrong : Outside.GROUPS) due.no("group " + wrong, x.leave(1, 0, wrong, tells));
        }
        for (int l = 0; l < 6; l++) {
            for (int g = 0; g < 3; g++) {
                due.is("marked " + l + " " + g, x.marked(l, g), 12);
                due.no("still a member " + l + " " + g, x.join(l, 0, g));
            }
        }
    }

    private static void leaveOfNoMember(Due due) {
        due.by("Promise 6", "or the host is no member");
        MulticastTrees x = new MulticastTrees(0);
        x.join(1, 1, 1);
        due.no("another LAN", x.leave(2, 1, 1, true));
        due.no("another host", x.leave(1, 2, 1, true));
        due.no("another group", x.leave(1, 1, 2, true));
        due.is("the mark stays", x.marked(1, 1), 12);
        due.yes("the member, silently", x.leave(1, 1, 1, false));
        due.no("no longer one", x.leave(1, 1, 1, true));
        due.is("the reporter that is no member can't tell", x.marked(1, 1), 12);
    }

    private static void markedCounts(Due due) {
        due.by("Promise 7", "UNTIL less clock");
        MulticastTrees x = new MulticastTrees(0);
        x.join(5, 3, 2);
        x.leave(5, 3, 2, false);
        for (int left = 12; left >= 1; left--) {
            due.is("ticks left", x.marked(5, 2), left);
            x.pass(1);
        }
    }

    private static void notMarked(Due due) {
        due.by("Promise 7", "0 if it is not marked");
        MulticastTrees x = new MulticastTrees(0);
        for (int l = 0; l < 6; l++) {
            for (int g = 0; g < 3; g++) due.is("at first, " + l + " " + g, x.marked(l, g), 0);
        }
        x.pass(10);
        due.is("without a report, later", x.marked(0, 0), 0);
        x.join(0, 0, 0);
        x.leave(0, 0, 0, true);
        for (int t = 2; t <= 8; t++) {
            x.pass(t);
            due.is("UNTIL is past", x.marked(0, 0), 0);
        }
    }

    private static void markedOfNothing(Due due) {
        due.by("Promise 7", "-1 if one of them does not exist");
        MulticastTrees x = new MulticastTrees(0);
        x.join(1, 0, 0);
        for (int wrong : Outside.ROUTERS) due.is("LAN " + wrong, x.marked(wrong, 0), -1);
        for (int wrong : Outside.GROUPS) due.is("group " + wrong, x.marked(1, wrong), -1);
    }

    private static void ticksOutside(Due due) {
        due.by("Promise 8", "False, if n is not 1 .. 10");
        MulticastTrees x = new MulticastTrees(0);
        x.join(0, 0, 0);
        for (int wrong : Outside.TICKS) {
            due.no("pass(" + wrong + ")", x.pass(wrong));
            due.is("no tick by " + wrong, x.marked(0, 0), 12);
        }
    }

    private static void leastAndMostTicks(Due due) {
        due.by("Promise 8", "n TICKS, one after the other: the clock grows by 1");
        for (int n = 1; n <= 10; n++) {
            MulticastTrees x = new MulticastTrees(0);
            x.join(0, 0, 0);
            x.leave(0, 0, 0, false);
            due.yes("pass(" + n + ")", x.pass(n));
            due.is("ticks left after " + n, x.marked(0, 0), 12 - n);
        }
    }

    private static void multiplesOfFive(Due due) {
        due.by("Promise 8", "if it is a multiple of 5 then");
        MulticastTrees x = new MulticastTrees(0);
        x.join(0, 0, 0);
        for (int t = 1; t <= 20; t++) {
            x.pass(1);
            due.is("at clock " + t, x.marked(0, 0), 12 - t % 5);
        }
    }

    private static void multiplesOfFiveWithin(Due due) {
        due.by("Promise 8", "n TICKS, one after the other");
        for (int n = 1; n <= 10; n++) {
            MulticastTrees x = new MulticastTrees(0);
            x.join(0, 0, 0);
            x.pass(n);
            due.is("after pass(" + n + ")", x.marked(0, 0), 12 - n % 5);
        }
        MulticastTrees y = new MulticastTrees(0);
        y.pass(3);
        y.join(0, 0, 0);
        y.pass(9);
        due.is("from 3 to 12, with 5 and 10 between", y.marked(0, 0), 10);
    }

    private static void lowestMemberReports(Due due) {
        due.by("Promise 8", "the lowest-numbered member of each group on each LAN");
        MulticastTrees x = new MulticastTrees(0);
        for (int l = 0; l < 6; l++) {
            for (int g = 0; g < 3; g++) {
                x.join(l, 1, g);
                x.join(l, 2, g);
            }
        }
        x.pass(5);
        for (int l = 0; l < 6; l++) {
            for (int g = 0; g < 3; g++) due.is("marked " + l + " " + g, x.marked(l, g), 12);
        }
        x.pass(1);
        x.leave(5, 2, 2, true);
        due.is("2 is no longer the reporter", x.marked(5, 2), 11);
        x.leave(5, 1, 2, true);
        due.is("1 is, and was the last", x.marked(5, 2), 2);
        x.leave(0, 1, 0, true);
        due.is("1 is, and 2 reports", x.marked(0, 0), 12);
    }

    private static void whereThereIsOne(Due due) {
        due.by("Promise 8", "(where there is one)");
        MulticastTrees x = new MulticastTrees(0);
        x.join(1, 0, 1);
        x.join(2, 0, 1);
        x.leave(2, 0, 1, false);
        x.pass(5);
        due.is("a member", x.marked(1, 1), 12);
        due.is("no member any more", x.marked(2, 1), 7);
        due.is("none ever", x.marked(3, 1), 0);
        due.is("none of this group", x.marked(1, 0), 0);
    }

    private static void lateClock(Due due) {
        due.by("What it is", "An object is used for at most 512 calls after it has been made");
        MulticastTrees x = Nets.line(0, 0, 1);
        x.join(1, 0, 0);
        for (int k = 0; k < 490; k++) x.pass(10);
        due.yes("pass(4)", x.pass(4));
        due.is("the mark at clock 4904", x.marked(1, 0), 8);
        due.is("heard", x.send(1, 0), 1);
        x.pass(7);
        due.is("its keepalive runs", x.entry(1, 1, 0) & 3, 3);
        x.pass(1);
        due.is("and ends", x.entry(1, 1, 0) & 3, 0);
        due.is("the mark at clock 4912", x.marked(1, 0), 10);
        x.leave(1, 0, 0, true);
        x.pass(2);
        due.is("no mark at clock 4914", x.marked(1, 0), 0);
        due.is("one shared join in all", x.messages(0), 1);
        due.is("withdrawn", x.messages(1), 1);
    }

    private static void sharedIsNowhere(Due due) {
        due.by("Promise 14", "-1 if it is nowhere");
        MulticastTrees x = Nets.line(0, 0, 1, 2);
        due.is("nobody wants it", x.shared(1, 0), -1);
        x.join(1, 0, 0);
        x.join(0, 0, 0);
        x.join(5, 0, 0);
        due.is("router 0 is not nowhere", x.shared(1, 0), 0);
        due.is("the meeting point", x.shared(0, 0), -1);
        due.is("not connected", x.shared(5, 0), -1);
        due.is("not wanted here", x.shared(2, 0), -1);
        due.is("not in this group", x.shared(1, 1), -1);
    }

    private static void sharedOfNothing(Due due) {
        due.by("Promise 14", "or one does not exist");
        MulticastTrees x = Nets.star(1, 2, 3, 4, 5);
        for (int wrong : Outside.ROUTERS) due.is("router " + wrong, x.shared(wrong, 0), -1);
        for (int wrong : Outside.GROUPS) due.is("group " + wrong, x.shared(1, wrong), -1);
    }
}
