/** The sentences on boundary cases of the term NET and of the promises 1 to 4, one after the other. */
public final class NetEdgesTest {
    public static void main(String[] args) {
        Due due = new Due();
        noLinksAtFirst(due);
        meetIsARouter(due);
        meetIsNoRouter(due);
        oneLinkBetweenTwo(due);
        distanceToItself(due);
        hopToItself(due);
        hopOfUnconnected(due);
        lowestHop(due);
        leastAndMostCost(due);
        costNought(due);
        linkOfNoRouter(due);
        linkToItself(due);
        costOutside(due);
        sameCost(due);
        noLinkAlready(due);
        distanceOfUnconnected(due);
        distanceOfNoRouter(due);
        hopIsNone(due);
        hopOfNoRouter(due);
        due.end();
    }

    private static void noLinksAtFirst(Due due) {
        due.by("Promise 1", "No links.");
        MulticastTrees x = new MulticastTrees(0);
        for (int a = 0; a < 6; a++) {
            for (int b = 0; b < 6; b++) {
                if (a != b) due.is("distance " + a + " " + b, x.distance(a, b), -1);
                if (a != b) due.no("link(" + a + ", " + b + ", 0)", x.link(a, b, 0));
            }
        }
    }

    private static void meetIsARouter(Due due) {
        due.by("Promise 1", "R is the router meet, if that is 0 .. 5");
        for (int meet = 0; meet < 6; meet++) meetsAt(due, meet, meet);
    }

    private static void meetIsNoRouter(Due due) {
        due.by("Promise 1", "else 0");
        for (int meet : Outside.ROUTERS) meetsAt(due, meet, 0);
    }

    private static void meetsAt(Due due, int meet, int r) {
        MulticastTrees x = Nets.mesh(meet);
        for (int n = 0; n < 6; n++) x.join(n, 0, 0);
        for (int n = 0; n < 6; n++) due.is("meet " + meet + ": shared of " + n, x.shared(n, 0), n == r ? -1 : r);
        x.send(r, 0);
        due.is("meet " + meet + ": no register from " + r, x.messages(6), 0);
    }

    private static void oneLinkBetweenTwo(Due due) {
        due.by("NET", "at most one between the same two");
        MulticastTrees x = new MulticastTrees(0);
        x.link(2, 3, 4);
        due.yes("a dearer one the other way", x.link(3, 2, 7));
        due.is("distance 2 3", x.distance(2, 3), 7);
        due.is("distance 3 2", x.distance(3, 2), 7);
        due.yes("taken away", x.link(2, 3, 0));
        due.is("no other one is left", x.distance(3, 2), -1);
    }

    private static void distanceToItself(Due due) {
        due.by("NET", "a router has distance 0 to itself");
        MulticastTrees x = new MulticastTrees(0);
        for (int a = 0; a < 6; a++) due.is("without links, " + a, x.distance(a, a), 0);
        MulticastTrees y = Nets.mesh(0);
        for (int a = 0; a < 6; a++) due.is("with links, " + a, y.distance(a, a), 0);
    }

    private static void hopToItself(Due due) {
        due.by("NET", "for a = b, or if they are not connected, HOP(a, b) is NONE");
        MulticastTrees x = new MulticastTrees(0);
        for (int a = 0; a < 6; a++) due.is("without links, " + a, x.hop(a, a), -1);
        MulticastTrees y = Nets.mesh(0);
        for (int a = 0; a < 6; a++) due.is("with links, " + a, y.hop(a, a), -1);
    }

    private static void hopOfUnconnected(Due due) {
        due.by("NET", "for a = b, or if they are not connected, HOP(a, b) is NONE");
        MulticastTrees x = new MulticastTrees(0);
        due.is("no link at all", x.hop(0, 5), -1);
        x.link(0, 1, 1);
        x.link(4, 5, 1);
        due.is("in two parts", x.hop(0, 5), -1);
        due.is("in two parts, back", x.hop(5, 0), -1);
        x.link(1, 4, 9);
        due.is("joined up", x.hop(0, 5), 1);
        x.link(1, 4, 0);
        due.is("in two parts again", x.hop(0, 5), -1);
    }

    private static void lowestHop(Due due) {
        due.by("NET", "the lowest-numbered router n that has a link to a");
        MulticastTrees x = new MulticastTrees(0);
        for (int n = 1; n < 5; n++) x.link(5, n, n);
        for (int n = 1; n < 5; n++) x.link(n, 0, 6 - n);
        due.is("four ways of 6", x.hop(5, 0), 1);
        due.is("four ways of 6, back", x.hop(0, 5), 1);
        x.link(5, 0, 6);
        due.is("and the link itself, to the lowest", x.hop(5, 0), 0);
        due.is("and the link itself, to the highest", x.hop(0, 5), 1);
        x.link(0, 4, 1);
        due.is("only the shortest count", x.hop(0, 5), 4);
    }

    private static void leastAndMostCost(Due due) {
        due.by("NET", "each with a COST 1 .. 9 (the same both ways)");
        MulticastTrees x = new MulticastTrees(0);
        due.yes("cost 1", x.link(0, 5, 1));
        due.is("distance 0 5", x.distance(0, 5), 1);
        due.is("distance 5 0", x.distance(5, 0), 1);
        due.yes("cost 9", x.link(5, 0, 9));
        due.is("distance 0 5 then", x.distance(0, 5), 9);
        due.is("distance 5 0 then", x.distance(5, 0), 9);
        for (int a = 0; a < 4; a++) x.link(a, a + 1, 9);
        x.link(0, 5, 0);
        x.link(4, 5, 9);
        due.is("the greatest distance", x.distance(0, 5), 45);
        due.is("the greatest distance, back", x.distance(5, 0), 45);
        due.is("the hop there", x.hop(0, 5), 1);
    }

    private static void costNought(Due due) {
        due.by("Promise 2", "with the cost 0 there is none any more");
        MulticastTrees x = Nets.line(0, 0, 1, 2);
        due.yes("link(1, 2, 0)", x.link(1, 2, 0));
        due.is("distance 1 2", x.distance(1, 2), -1);
        due.is("distance 0 2", x.distance(0, 2), -1);
        due.is("hop 2 1", x.hop(2, 1), -1);
        due.is("the other link stays", x.distance(0, 1), 1);
    }

    private static void linkOfNoRouter(Due due) {
        due.by("Promise 2", "False, if a or b is no router");
        MulticastTrees x = new MulticastTrees(0);
        for (int wrong : Outside.ROUTERS) {
            due.no("link(" + wrong + ", 1, 2)", x.link(wrong, 1, 2));
            due.no("link(1, " + wrong + ", 2)", x.link(1, wrong, 2));
            due.no("link(" + wrong + ", 0, 0)", x.link(wrong, 0, 0));
            due.no("link(0, " + wrong + ", 0)", x.link(0, wrong, 0));
        }
        due.no("both", x.link(-1, 6, 2));
        due.yes("the first and the last", x.link(0, 5, 2));
    }

    private static void linkToItself(Due due) {
        due.by("Promise 2", "a = b");
        MulticastTrees x = Nets.mesh(0);
        for (int a = 0; a < 6; a++) {
            for (int cost = 0; cost <= 9; cost++) due.no(a + " to itself by " + cost, x.link(a, a, cost));
            due.is("distance " + a + " " + a, x.distance(a, a), 0);
        }
    }

    private static void costOutside(Due due) {
        due.by("Promise 2", "the cost is not 0 .. 9");
        MulticastTrees x = Nets.line(0, 0, 1);
        for (int wrong : Outside.COSTS) {
            due.no("a link with " + wrong, x.link(0, 1, wrong));
            due.no("no link yet, with " + wrong, x.link(2, 3, wrong));
        }
        due.is("distance 0 1", x.distance(0, 1), 1);
        due.is("distance 2 3", x.distance(2, 3), -1);
        for (int cost = 9; cost >= 0; cost--) {
            if (cost != 1) due.yes("a link with " + cost, x.link(0, 1, cost));
        }
    }

    private static void sameCost(Due due) {
        due.by("Promise 2", "or the link has that cost already");
        for (int cost = 1; cost <= 9; cost++) {
            MulticastTrees x = new MulticastTrees(0);
            due.yes("cost " + cost, x.link(3, 4, cost));
            due.no("again cost " + cost, x.link(3, 4, cost));
            due.no("again, back, cost " + cost, x.link(4, 3, cost));
            due.yes("another cost", x.link(4, 3, cost % 9 + 1));
            due.yes("the first one again", x.link(3, 4, cost));
        }
    }

    private static void noLinkAlready(Due due) {
        due.by("Promise 2", "(or, for 0, there is none)");
        MulticastTrees x = new MulticastTrees(0);
        due.no("never was one", x.link(0, 1, 0));
        x.link(0, 1, 2);
        due.yes("there is one", x.link(1, 0, 0));
        due.no("no more", x.link(1, 0, 0));
        due.no("no more, back", x.link(0, 1, 0));
        due.yes("a new one with the old cost", x.link(0, 1, 2));
    }

    private static void distanceOfUnconnected(Due due) {
        due.by("Promise 3", "-1 if they are not connected");
        MulticastTrees x = Nets.line(0, 0, 1, 2);
        x.link(3, 4, 1);
        for (int a = 0; a < 3; a++) {
            for (int b = 3; b < 6; b++) {
                due.is("distance " + a + " " + b, x.distance(a, b), -1);
                due.is("distance " + b + " " + a, x.distance(b, a), -1);
            }
        }
        due.is("within the second part", x.distance(3, 4), 1);
        due.is("one that stands alone", x.distance(5, 4), -1);
    }

    private static void distanceOfNoRouter(Due due) {
        due.by("Promise 3", "or one is no router");
        MulticastTrees x = Nets.mesh(0);
        for (int wrong : Outside.ROUTERS) {
            due.is("distance(" + wrong + ", 0)", x.distance(wrong, 0), -1);
            due.is("distance(0, " + wrong + ")", x.distance(0, wrong), -1);
            due.is("distance(" + wrong + ", " + wrong + ")", x.distance(wrong, wrong), -1);
        }
    }

    private static void hopIsNone(Due due) {
        due.by("Promise 4", "-1 if that is NONE");
        MulticastTrees x = Nets.line(0, 0, 1, 2);
        due.is("hop(1, 1)", x.hop(1, 1), -1);
        due.is("hop(0, 3)", x.hop(0, 3), -1);
        due.is("hop(3, 0)", x.hop(3, 0), -1);
        due.is("router 0 is not NONE", x.hop(1, 0), 0);
    }

    private static void hopOfNoRouter(Due due) {
        due.by("Promise 4", "-1 if that is NONE or one is no router");
        MulticastTrees x = Nets.mesh(0);
        for (int wrong : Outside.ROUTERS) {
            due.is("hop(" + wrong + ", 0)", x.hop(wrong, 0), -1);
            due.is("hop(0, " + wrong + ")", x.hop(0, wrong), -1);
            due.is("hop(" + wrong + ", " + wrong + ")", x.hop(wrong, wrong), -1);
        }
    }
}
