/** Nets that many tests begin with; every link costs 1. */
final class Nets {
    private Nets() {
    }

    /** Each of the routers is linked with the next one. */
    static MulticastTrees line(int meet, int... routers) {
        MulticastTrees x = new MulticastTrees(meet);
        for (int k = 1; k < routers.length; k++) x.link(routers[k - 1], routers[k], 1);
        return x;
    }

    /** All routers are linked with router 0, the meeting point; host 0 of each of the LANs is a member of group 0. */
    static MulticastTrees star(int... lans) {
        MulticastTrees x = new MulticastTrees(0);
        for (int n = 1; n < 6; n++) x.link(0, n, 1);
        for (int l : lans) x.join(l, 0, 0);
        return x;
    }

    /** Every router is linked with every other one. */
    static MulticastTrees mesh(int meet) {
        MulticastTrees x = new MulticastTrees(meet);
        for (int a = 0; a < 6; a++) {
            for (int b = a + 1; b < 6; b++) x.link(a, b, 1);
        }
        return x;
    }
}
