/** The sentences on boundary cases of the terms PACKET and LOSSES and of the promises 9 to 13 and 15 to 17. */
public final class PacketsEdgesTest {
    public static void main(String[] args) {
        Due due = new Due();
        keepaliveOfTheSource(due);
        routersOnTheWaySwitch(due);
        sourceSwitchesWithAList(due);
        noRegisterFromTheMeetingPoint(due);
        noRegisterWithoutAWay(due);
        quietAtFirst(due);
        quietUpToTheClock(due);
        stopIfListIsEmpty(due);
        stopIfSwitched(due);
        noStopOtherwise(due);
        keepaliveOfTheMeetingPoint(due);
        sourceCarriesWithAList(due);
        meetingPointCarries(due);
        notBack(due);
        ownLanOnce(due);
        dropsOfASwitchedRouter(due);
        dropsOfTheSource(due);
        ownLanIfMarked(due);
        keepaliveOfMarkedCarriers(due);
        listsBeforeThePacket(due);
        hearsWithoutLosses(due);
        lossesFallByOne(due);
        lossesStayIfNotReached(due);
        sendOfNothing(due);
        fiveOtherStreams(due);
        oneOfTheFive(due);
        endedStreamsDoNotCount(due);
        noPacketYet(due);
        latestPacketAlone(due);
        refusedPacketIsNotTheLatest(due);
        takenOrDropped(due);
        sumsOfLans(due);
        entryParts(due);
        fullList(due);
        entryOfNothing(due);
        kindsOutside(due);
        lossesBecome(due);
        loseOfNoLan(due);
        lossesOutside(due);
        due.end();
    }

    private static void latest(Due due, String what, MulticastTrees x, int crossings, int drops, int reached) {
        due.is(what + ": crossings", x.crossings(), crossings);
        due.is(what + ": drops", x.drops(), drops);
        due.is(what + ": reached", x.reached(), reached);
    }

    private static void keepaliveOfTheSource(Due due) {
        due.by("PACKET 1", "The keepalive of s becomes clock + 8.");
        MulticastTrees x = new MulticastTrees(0);
        x.send(4, 1);
        due.is("with no list and no link", x.entry(4, 4, 1), 1);
        x.pass(3);
        x.send(4, 1);
        x.pass(7);
        due.is("at clock 10, set at 3", x.entry(4, 4, 1), 1);
        x.pass(1);
        due.is("at clock 11", x.entry(4, 4, 1), 0);
        for (int n = 0; n < 4; n++) due.is("no other router", x.entry(n, 4, 1), 0);
    }

    private static void routersOnTheWaySwitch(Due due) {
        due.by("PACKET 1", "All routers whose source join for (s, g) is somewhere");
        MulticastTrees x = Nets.line(0, 3, 0, 1, 2);
        x.join(2, 0, 0);
        x.send(3, 0);
        due.is("1 has a join since the packet, and no keepalive", x.entry(1, 3, 0), 8 + 16);
        x.pass(3);
        x.send(3, 0);
        due.is("1 is switched", x.entry(1, 3, 0), 1 + 2 + 8 + 16);
        due.is("2 is switched", x.entry(2, 3, 0), 1 + 2 + 8 + 16);
        due.is("R is switched", x.entry(0, 3, 0), 1 + 2 + 8 + 16);
        x.pass(7);
        due.is("keepalive of 1 at clock 10", x.entry(1, 3, 0) & 3, 3);
        due.is("keepalive of 2 at clock 10", x.entry(2, 3, 0) & 3, 3);
        x.pass(1);
        due.is("keepalive of 1 at clock 11", x.entry(1, 3, 0) & 3, 0);
        due.is("keepalive of 2 at clock 11", x.entry(2, 3, 0) & 3, 0);
    }

    private static void sourceSwitchesWithAList(Due due) {
        due.by("PACKET 1", "and s if its outer list is not empty, become switched");
        MulticastTrees x = new MulticastTrees(0);
        x.send(2, 0);
        due.is("an empty list", x.entry(2, 2, 0), 1);
        x.join(2, 0, 0);
        due.is("not by the join", x.entry(2, 2, 0), 1 + 16);
        x.send(2, 0);
        due.is("its LAN is in the list", x.entry(2, 2, 0), 1 + 2 + 16);
        MulticastTrees y = Nets.line(2, 2, 3);
        y.join(3, 0, 0);
        y.send(2, 0);
        due.is("a router is in the list", y.entry(2, 2, 0), 1 + 2 + 16);
    }

    private static void noRegisterFromTheMeetingPoint(Due due) {
        due.by("PACKET 2", "If s is not R");
        for (int r = 0; r < 6; r++) {
            MulticastTrees x = Nets.mesh(r);
            x.send(r, 0);
            due.is("from R, which is " + r, x.messages(6), 0);
            due.is("no stop", x.messages(7), 0);
            x.send((r + 1) % 6, 0);
            due.is("from another", x.messages(6), 1);
        }
    }

    private static void noRegisterWithoutAWay(Due due) {
        due.by("PACKET 2", "is connected with R");
        MulticastTrees x = Nets.line(0, 1, 2);
        x.join(0, 0, 0);
        due.is("heard by nobody", x.send(1, 0), 0);
        due.is("not connected", x.messages(6), 0);
        due.is("no stop", x.messages(7), 0);
        due.is("no keepalive of R", x.entry(0, 1, 0), 16);
        x.link(2, 0, 1);
        due.is("heard by LAN 0", x.send(1, 0), 1);
        due.is("connected, by 2", x.messages(6), 1);
    }

    private static void quietAtFirst(Due due) {
        due.by("PACKET 2", "the stream's time QUIET (0 at first) is not more than the clock");
        for (int g = 0; g < 3; g++) {
            MulticastTrees x = Nets.line(0, 0, 1);
            x.send(1, g);
            due.is("at clock 0, of group " + g, x.messages(6), 1);
        }
        MulticastTrees y = Nets.star();
        for (int s = 1; s < 6; s++) y.send(s, 2);
        due.is("each source has its own", y.messages(6), 5);
        MulticastTrees z = Nets.star();
        for (int g = 0; g < 3; g++) z.send(1, g);
        due.is("and for each group", z.messages(6), 3);
    }

    private static void quietUpToTheClock(Due due) {
        due.by("PACKET 2", "QUIET becomes clock + 6");
        MulticastTrees x = Nets.line(0, 0, 1);
        x.pass(2);
        x.send(1, 0);
        for (int t = 2; t < 8; t++) {
            x.send(1, 0);
            due.is("QUIET is 8, at clock " + t, x.messages(6), 1);
            x.pass(1);
        }
        x.send(1, 0);
        due.is("QUIET is 8, at clock 8", x.messages(6), 2);
        x.send(1, 0);
        due.is("QUIET is 14", x.messages(6), 2);
    }

    private static void stopIfListIsEmpty(Due due) {
        due.by("PACKET 2", "if R is switched or the outer list of R is empty, a STOP is sent");
        MulticastTrees x = Nets.line(0, 0, 1);
        x.send(1, 0);
        due.is("a register", x.messages(6), 1);
        due.is("and a stop, by the empty list", x.messages(7), 1);
        due.is("R is not switched", x.entry(0, 1, 0), 1);
    }

    private static void stopIfSwitched(Due due) {
        due.by("PACKET 2", "if R is switched or the outer list of R is empty, a STOP is sent");
        MulticastTrees x = Nets.line(0, 0, 1);
        x.join(0, 0, 0);
        x.send(1, 0);
        due.is("R is not switched by the first", x.entry(0, 1, 0), 1 + 8 + 16);
        due.is("no stop", x.messages(7), 0);
        x.send(1, 0);
        due.is("R is switched by the second", x.entry(0, 1, 0), 1 + 2 + 8 + 16);
        due.is("a stop, though the list is not empty", x.messages(7), 1);
        x.send(1, 0);
        due.is("two registers, the third packet sent none", x.messages(6), 2);
    }

    private static void noStopOtherwise(Due due) {
        due.by("PACKET 2", "if R is switched or the outer list of R is empty, a STOP is sent: QUIET becomes clock + 6");
        MulticastTrees x = Nets.line(0, 0, 1);
        x.join(0, 0, 0);
        x.send(1, 0);
        x.send(1, 0);
        due.is("without a stop the next registers too, at the same clock", x.messages(6), 2);
    }

    private static void keepaliveOfTheMeetingPoint(Due due) {
        due.by("PACKET 2", "a REGISTER is sent, and the keepalive of R becomes clock + 8");
        MulticastTrees x = Nets.line(0, 0, 1);
        x.send(1, 0);
        x.pass(5);
        x.send(1, 0);
        due.is("quiet: no register", x.messages(6), 1);
        x.pass(2);
        due.is("R at clock 7", x.entry(0, 1, 0), 1);
        x.pass(1);
        due.is("R at clock 8, by the register at 0", x.entry(0, 1, 0), 0);
        due.is("s at clock 8, by the packet at 5", x.entry(1, 1, 0), 1);
        x.send(1, 0);
        x.pass(7);
        due.is("R at clock 15, by the register at 8", x.entry(0, 1, 0), 1);
        x.pass(1);
        due.is("R at clock 16", x.entry(0, 1, 0), 0);
    }

    private static void sourceCarriesWithAList(Due due) {
        due.by("PACKET 3", "s CARRIES the packet if its outer list is not empty.");
        MulticastTrees x = Nets.line(1, 0, 1, 2);
        x.join(2, 0, 0);
        x.send(0, 0);
        latest(due, "an empty list: from R alone", x, 1, 0, 4);
        x.send(0, 0);
        latest(due, "1 is in the list", x, 2, 0, 4);
    }

    private static void meetingPointCarries(Due due) {
        due.by("PACKET 3", "R carries it if a register was sent and R is not switched.");
        MulticastTrees x = new MulticastTrees(0);
        x.join(0, 0, 0);
        x.send(1, 0);
        latest(due, "no register, as there is no way", x, 0, 0, 0);
        x.link(0, 1, 1);
        x.send(1, 0);
        latest(due, "a register, and not switched", x, 0, 0, 1);
        x.send(1, 0);
        due.is("a register", x.messages(6), 2);
        latest(due, "but switched: it takes it from 1", x, 1, 0, 1);
    }

    private static void notBack(Due due) {
        due.by("PACKET 3", "but not to the router from which it took it");
        MulticastTrees x = Nets.line(2, 0, 1, 2);
        x.join(1, 0, 0);
        x.send(0, 0);
        x.send(0, 0);
        latest(due, "0 to 1 to R, that has 1 in its list", x, 2, 0, 2);
    }

    private static void ownLanOnce(Due due) {
        due.by("PACKET 3", "and s not to LAN s");
        MulticastTrees x = new MulticastTrees(0);
        x.join(3, 0, 0);
        x.lose(3, 2);
        due.is("the first is lost", x.send(3, 0), 0);
        due.is("and the second", x.send(3, 0), 0);
        due.is("the third is heard", x.send(3, 0), 1);
        latest(due, "LAN 3", x, 0, 0, 8);
    }

    /** Router 2 takes from 3 by the second packet, and 1, which has it in its list, still puts it out to it. */
    private static void dropsOfASwitchedRouter(Due due) {
        due.by("PACKET 3", "n is switched and m is HOP(n, s), or n is not switched and m is HOP(n, R)");
        MulticastTrees x = Nets.line(0, 0, 1, 2, 3, 0);
        x.join(2, 0, 0);
        x.send(3, 0);
        latest(due, "not switched: taken from 1", x, 2, 0, 4);
        x.send(3, 0);
        latest(due, "switched: taken from 3, dropped from 1", x, 4, 1, 4);
        due.is("heard once", x.heard(), 4);
        x.send(3, 0);
        latest(due, "1 is cut", x, 1, 0, 4);
    }

    private static void dropsOfTheSource(Due due) {
        due.by("PACKET 3", "TAKES and carries it if n is not s");
        MulticastTrees x = Nets.line(0, 0, 1, 2);
        x.join(2, 0, 0);
        x.send(1, 0);
        latest(due, "1 to 2, and R to 1, which drops it", x, 2, 1, 4);
    }

    private static void ownLanIfMarked(Due due) {
        due.by("PACKET 3", "and LAN s, if that is marked for g");
        MulticastTrees x = new MulticastTrees(0);
        due.is("not marked", x.send(5, 0), 0);
        latest(due, "not marked", x, 0, 0, 0);
        x.join(5, 0, 0);
        due.is("marked", x.send(5, 0), 1);
        latest(due, "marked", x, 0, 0, 32);
        due.is("not for this group", x.send(5, 1), 0);
        x.leave(5, 0, 0, false);
        due.is("marked without a member", x.send(5, 0), 1);
        x.pass(10);
        x.pass(1);
        due.is("marked for a tick more", x.send(5, 0), 1);
        x.pass(1);
        due.is("no longer marked", x.send(5, 0), 0);
    }

    private static void keepaliveOfMarkedCarriers(Due due) {
        due.by("PACKET 4", "Each router that carried it, is not switched, and whose LAN is marked for g");
        MulticastTrees x = Nets.line(0, 0, 1, 2);
        x.join(2, 0, 0);
        x.join(4, 0, 0);
        x.send(0, 0);
        due.is("1 carried it, and is not marked", x.entry(1, 0, 0) & 1, 0);
        due.is("2 carried it, and is marked", x.entry(2, 0, 0) & 1, 1);
        due.is("4 is marked, and did not carry it", x.entry(4, 0, 0) & 1, 0);
        x.pass(3);
        x.join(1, 0, 0);
        x.send(0, 0);
        x.pass(7);
        due.is("1 at clock 10", x.entry(1, 0, 0) & 1, 1);
        x.pass(1);
        due.is("1 at clock 11", x.entry(1, 0, 0) & 1, 0);
    }

    private static void listsBeforeThePacket(Due due) {
        due.by("PACKET", "joins, cuts and lists are those settled before it, all through 1 to 4");
        MulticastTrees x = Nets.line(1, 0, 1, 2);
        x.join(0, 0, 0);
        x.join(2, 0, 0);
        x.send(0, 0);
        latest(due, "s is switched by it, but not cut for it: R still puts it out to s", x, 2, 1, 5);
        due.is("cut after it", x.entry(0, 0, 0) & 4, 4);
    }

    private static void hearsWithoutLosses(Due due) {
        due.by("LOSSES", "A LAN that is reached HEARS the packet if its losses are 0");
        MulticastTrees x = Nets.star(0, 1, 2, 3, 4, 5);
        due.is("at first all hear", x.send(0, 0), 6);
        due.is("all of them", x.heard(), 63);
        x.lose(3, 1);
        due.is("all but one", x.send(0, 0), 5);
        due.is("not 3", x.heard(), 63 - 8);
        due.is("which is reached", x.reached(), 63);
    }

    private static void lossesFallByOne(Due due) {
        due.by("LOSSES", "otherwise it does not, and its losses fall by one");
        for (int c = 0; c <= 9; c++) {
            MulticastTrees x = Nets.star(1);
            x.lose(1, c);
            for (int k = 0; k < c; k++) due.is("losses " + c + ", packet " + k, x.send(0, 0), 0);
            due.is("losses " + c + ", all fallen", x.send(0, 0), 1);
            due.is("losses " + c + ", and no further", x.send(0, 0), 1);
        }
    }

    private static void lossesStayIfNotReached(Due due) {
        due.by("LOSSES", "A LAN that is reached HEARS the packet if its losses are 0");
        MulticastTrees x = Nets.star(1);
        x.lose(2, 1);
        x.lose(0, 1);
        due.is("1 hears", x.send(0, 0), 1);
        x.join(2, 0, 0);
        x.join(0, 0, 0);
        due.is("2 and 0 have their loss still", x.send(0, 0), 1);
        due.is("and no more", x.send(0, 0), 3);
    }

    private static void sendOfNothing(Due due) {
        due.by("Promise 9", "-1, refused, if one does not exist");
        MulticastTrees x = Nets.star(0, 1, 2);
        for (int wrong : Outside.ROUTERS) due.is("LAN " + wrong, x.send(wrong, 1), -1);
        for (int wrong : Outside.GROUPS) due.is("group " + wrong, x.send(1, wrong), -1);
        due.is("no register", x.messages(6), 0);
    }

    private static void fiveOtherStreams(Due due) {
        due.by("Promise 9", "there are five other streams for which some router's keepalive runs");
        MulticastTrees x = Nets.star(0);
        due.is("the first", x.send(0, 0), 1);
        due.is("the same source, another group", x.send(0, 1), 0);
        due.is("another source, the same group", x.send(1, 0), 1);
        due.is("the fourth", x.send(2, 2), 0);
        due.is("with four others", x.send(3, 0), 1);
        for (int s = 0; s < 6; s++) {
            for (int g = 0; g < 3; g++) {
                boolean runs = s == 0 && g < 2 || s == 1 && g == 0 || s == 2 && g == 2 || s == 3 && g == 0;
                due.is("with five, " + s + " " + g, x.send(s, g), runs ? g == 0 ? 1 : 0 : -1);
            }
        }
    }

    private static void oneOfTheFive(Due due) {
        due.by("Promise 9", "no router's keepalive for (s, g) runs");
        MulticastTrees x = new MulticastTrees(0);
        for (int s = 0; s < 5; s++) x.send(s, 0);
        for (int s = 0; s < 5; s++) due.is("its own runs, " + s, x.send(s, 0), 0);
        x.pass(7);
        due.is("still at clock 7", x.send(4, 0), 0);
        due.is("but not a sixth", x.send(5, 0), -1);
        x.pass(1);
        due.is("four have ended", x.send(5, 0), 0);
        due.is("the fifth of them has not", x.entry(4, 4, 0), 1);
    }

    private static void endedStreamsDoNotCount(Due due) {
        due.by("Promise 9", "there are five other streams for which some router's keepalive runs");
        MulticastTrees x = new MulticastTrees(0);
        x.send(0, 0);
        x.pass(1);
        for (int s = 1; s < 5; s++) x.send(s, 0);
        x.pass(6);
        due.is("at clock 7 all five run", x.send(5, 2), -1);
        x.pass(1);
        due.is("at clock 8 the first has ended", x.send(5, 2), 0);
        due.is("which is a sixth itself now", x.send(0, 0), -1);
        x.pass(1);
        due.is("at clock 9 there is but one", x.send(0, 0), 0);
    }

    private static void noPacketYet(Due due) {
        MulticastTrees x = Nets.star(1, 2);
        x.publish(0, 0, 1);
        x.requests(0);
        x.send(6, 0);
        x.emit(1);
        x.pass(1);
        due.by("Promise 10", "0 if there was none");
        due.is("crossings", x.crossings(), 0);
        due.by("Promise 11", "0 if there was none");
        due.is("drops", x.drops(), 0);
        due.by("Promise 12", "0 if there was none");
        due.is("reached", x.reached(), 0);
        due.by("Promise 13", "0 if there was none");
        due.is("heard", x.heard(), 0);
    }

    private static void latestPacketAlone(Due due) {
        MulticastTrees x = Nets.line(0, 0, 1, 2);
        x.join(2, 0, 0);
        x.send(1, 0);
        due.by("Promises 10 to 13", "the latest packet");
        latest(due, "1 to 2, and R to 1", x, 2, 1, 4);
        due.is("heard", x.heard(), 4);
        x.send(1, 1);
        due.by("Promise 10", "The number of crossings of the latest packet");
        due.is("crossings", x.crossings(), 0);
        due.by("Promise 11", "How many times the latest packet was dropped");
        due.is("drops", x.drops(), 0);
        due.by("Promise 12", "The LANs that the latest packet reached");
        due.is("reached", x.reached(), 0);
        due.by("Promise 13", "The LANs that heard the latest packet");
        due.is("heard", x.heard(), 0);
        x.publish(1, 0, 1);
        x.emit(0);
        due.by("Promises 10 to 13", "the latest packet");
        latest(due, "an emitted one", x, 1, 0, 4);
        due.is("heard", x.heard(), 4);
    }

    private static void refusedPacketIsNotTheLatest(Due due) {
        due.by("Promise 9", "-1, refused");
        MulticastTrees x = Nets.line(0, 0, 1, 2);
        x.join(2, 0, 0);
        x.publish(2, 2, 1);
        for (int g = 1; g < 3; g++) {
            x.send(0, g);
            x.send(1, g);
        }
        x.send(1, 0);
        due.is("a sixth stream", x.send(5, 1), -1);
        due.is("an emitted sixth", x.emit(0), -1);
        due.is("a wrong group", x.send(1, 3), -1);
        latest(due, "the fifth is the latest", x, 2, 1, 4);
        due.is("heard", x.heard(), 4);
        due.is("no keepalive", x.entry(5, 5, 1), 0);
    }

    private static void takenOrDropped(Due due) {
        due.by("Promise 10", "taken or dropped");
        MulticastTrees x = Nets.line(0, 0, 1);
        x.join(1, 0, 0);
        x.send(1, 0);
        latest(due, "R to 1 alone, which drops it", x, 1, 1, 2);
        MulticastTrees y = Nets.line(0, 0, 1);
        y.join(1, 0, 0);
        y.send(0, 0);
        latest(due, "R to 1 alone, which takes it", y, 1, 0, 2);
    }

    private static void sumsOfLans(Due due) {
        due.by("Promise 12", "the sum of 1 << l");
        for (int l = 0; l < 6; l++) {
            MulticastTrees x = Nets.star(l);
            x.send(0, 0);
            due.is("reached LAN " + l, x.reached(), 1 << l);
            due.is("heard on LAN " + l, x.heard(), 1 << l);
        }
        MulticastTrees y = Nets.star(0, 1, 2, 3, 4, 5);
        due.is("all hear", y.send(0, 0), 6);
        due.is("all are reached", y.reached(), 63);
        due.is("all heard", y.heard(), 63);
    }

    private static void entryParts(Due due) {
        due.by("Promise 15", "1 if its keepalive runs, + 2 if it is switched, + 4 if its cut is somewhere, + 8 if its"
            + " source join is somewhere, + 16 * the number of things (LANs and routers) in its outer list");
        MulticastTrees x = Nets.line(0, 0, 1, 2, 3, 0);
        due.is("nothing", x.entry(2, 3, 0), 0);
        x.join(2, 0, 0);
        due.is("its LAN", x.entry(2, 3, 0), 16);
        due.is("a router", x.entry(1, 3, 0), 16);
        x.send(3, 0);
        due.is("1, 8 and its LAN", x.entry(2, 3, 0), 25);
        due.is("the source, with 2 and 0", x.entry(3, 3, 0), 1 + 32);
        x.send(3, 0);
        due.is("all of them", x.entry(2, 3, 0), 31);
        due.is("a cut alone", x.entry(1, 3, 0), 4);
        due.is("keepalive and switch", x.entry(0, 3, 0), 3);
    }

    private static void fullList(Due due) {
        due.by("Promise 15", "the number of things (LANs and routers) in its outer list");
        MulticastTrees x = Nets.star(0, 1, 2, 3, 4, 5);
        due.is("five routers and the LAN", x.entry(0, 5, 0), 96);
        x.leave(0, 0, 0, true);
        x.pass(2);
        due.is("five routers", x.entry(0, 5, 0), 80);
        due.is("none in another group", x.entry(0, 5, 1), 0);
    }

    private static void entryOfNothing(Due due) {
        due.by("Promise 15", "-1 if one does not exist");
        MulticastTrees x = Nets.star(0, 1, 2, 3, 4, 5);
        for (int wrong : Outside.ROUTERS) due.is("router " + wrong, x.entry(wrong, 1, 0), -1);
        for (int wrong : Outside.ROUTERS) due.is("source " + wrong, x.entry(1, wrong, 0), -1);
        for (int wrong : Outside.GROUPS) due.is("group " + wrong, x.entry(1, 1, wrong), -1);
        due.is("the last of each", x.entry(5, 5, 2), 0);
    }

    private static void kindsOutside(Due due) {
        due.by("Promise 16", "-1 for another kind");
        MulticastTrees x = new MulticastTrees(0);
        for (int wrong : Outside.KINDS) due.is("kind " + wrong, x.messages(wrong), -1);
        for (int kind = 0; kind < 10; kind++) due.is("kind " + kind, x.messages(kind), 0);
    }

    private static void lossesBecome(Due due) {
        due.by("Promise 17", "The losses of LAN l become c");
        MulticastTrees x = Nets.star(1);
        due.yes("nine", x.lose(1, 9));
        due.yes("then one", x.lose(1, 1));
        due.yes("one again", x.lose(1, 1));
        due.is("one is lost", x.send(0, 0), 0);
        due.is("and no more", x.send(0, 0), 1);
        x.lose(1, 9);
        due.yes("none", x.lose(1, 0));
        due.is("heard at once", x.send(0, 0), 1);
        due.yes("none, where none is", x.lose(1, 0));
    }

    private static void loseOfNoLan(Due due) {
        due.by("Promise 17", "false if l is no LAN");
        MulticastTrees x = Nets.star(0, 1, 2, 3, 4, 5);
        for (int wrong : Outside.ROUTERS) due.no("LAN " + wrong, x.lose(wrong, 1));
        due.is("all hear", x.send(0, 0), 6);
        for (int l = 0; l < 6; l++) due.yes("LAN " + l, x.lose(l, 1));
        due.is("none hears", x.send(0, 0), 0);
    }

    private static void lossesOutside(Due due) {
        due.by("Promise 17", "or c is not 0 .. 9");
        MulticastTrees x = Nets.star(1);
        for (int wrong : Outside.LOSSES) due.no("losses " + wrong, x.lose(1, wrong));
        due.is("heard", x.send(0, 0), 1);
        for (int c = 9; c >= 0; c--) due.yes("losses " + c, x.lose(1, c));
        due.is("heard again", x.send(0, 0), 1);
    }
}
