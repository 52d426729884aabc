/** Promises 1 to 4: a new object, link, distance, hop; the boundary cases are in NetEdgesTest. */
public final class NetTest {
    public static void main(String[] args) {
        Due due = new Due();
        newObject(due);
        linkAnswers(due);
        distances(due);
        hops(due);
        due.end();
    }

    private static void newObject(Due due) {
        MulticastTrees x = new MulticastTrees(3);
        for (int a = 0; a < 6; a++) {
            for (int b = 0; b < 6; b++) {
                due.is("new: distance " + a + " " + b, x.distance(a, b), a == b ? 0 : -1);
                due.is("new: hop " + a + " " + b, x.hop(a, b), -1);
            }
            for (int g = 0; g < 3; g++) {
                due.is("new: marked " + a + " " + g, x.marked(a, g), 0);
                due.is("new: shared " + a + " " + g, x.shared(a, g), -1);
                for (int s = 0; s < 6; s++) due.is("new: entry " + a + " " + s + " " + g, x.entry(a, s, g), 0);
            }
        }
        for (int kind = 0; kind < 10; kind++) due.is("new: messages " + kind, x.messages(kind), 0);
        due.is("new: crossings", x.crossings(), 0);
        due.is("new: drops", x.drops(), 0);
        due.is("new: reached", x.reached(), 0);
        due.is("new: heard", x.heard(), 0);
        due.is("new: have", x.have(0, 0), -1);
        due.is("new: requests", x.requests(0), -1);
        due.is("new: emit", x.emit(0), -1);
    }

    private static void linkAnswers(Due due) {
        MulticastTrees x = new MulticastTrees(0);
        due.no("link off, where none is", x.link(0, 1, 0));
        due.yes("first link", x.link(0, 1, 3));
        due.no("the same cost", x.link(0, 1, 3));
        due.no("the same cost the other way", x.link(1, 0, 3));
        due.yes("another cost the other way", x.link(1, 0, 9));
        due.is("distance 0 1", x.distance(0, 1), 9);
        due.is("distance 1 0", x.distance(1, 0), 9);
        due.yes("least cost", x.link(0, 1, 1));
        due.is("distance 0 1 then", x.distance(0, 1), 1);
        due.yes("link off", x.link(1, 0, 0));
        due.no("link off again", x.link(0, 1, 0));
        due.is("distance without a link", x.distance(0, 1), -1);
        due.yes("link on again", x.link(5, 4, 1));
        due.is("the last routers", x.distance(4, 5), 1);
    }

    private static void distances(Due due) {
        MulticastTrees x = new MulticastTrees(0);
        for (int a = 0; a < 5; a++) x.link(a, a + 1, 9);
        due.is("the longest", x.distance(0, 5), 45);
        due.is("the longest back", x.distance(5, 0), 45);
        x.link(0, 3, 8);
        due.is("shorter by 0 3", x.distance(0, 5), 26);
        due.is("round by 3", x.distance(0, 2), 17);
        x.link(0, 2, 9);
        x.link(2, 3, 0);
        due.is("0 2 by its link", x.distance(0, 2), 9);
        due.is("1 3 by 0", x.distance(1, 3), 17);
        x.link(3, 4, 0);
        due.is("cut off", x.distance(0, 4), -1);
        due.is("the part beyond", x.distance(4, 5), 9);
        due.is("to itself", x.distance(4, 4), 0);
    }

    private static void hops(Due due) {
        MulticastTrees x = new MulticastTrees(0);
        x.link(0, 4, 1);
        x.link(4, 5, 2);
        x.link(0, 2, 2);
        x.link(2, 5, 1);
        due.is("two ways as short, the lower one", x.hop(0, 5), 2);
        due.is("and back", x.hop(5, 0), 2);
        x.link(0, 5, 3);
        due.is("a neighbour behind a lower one", x.hop(0, 5), 2);
        due.is("the target is the lowest", x.hop(5, 0), 0);
        x.link(0, 5, 4);
        due.is("the direct link is dearer", x.hop(5, 0), 2);
        x.link(2, 5, 0);
        due.is("round by 4", x.hop(0, 5), 4);
        due.is("2 goes by 0", x.hop(2, 5), 0);
        x.link(0, 1, 1);
        due.is("a lower neighbour on no way", x.hop(0, 5), 4);
        due.is("to itself", x.hop(0, 0), -1);
        due.is("not connected", x.hop(0, 3), -1);
        due.is("not connected back", x.hop(3, 0), -1);
    }
}
