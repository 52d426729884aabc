/**
 * Promises 18 to 21: publish, emit, requests, have; and the messages 8 and 9 of promise 16. The boundary cases are
 * in FilesEdgesTest.
 */
public final class FilesTest {
    public static void main(String[] args) {
        Due due = new Due();
        publishes(due);
        emits(due);
        emitIsAPacket(due);
        emitRefused(due);
        onlyMembersKeep(due);
        horizons(due);
        repairsComeFirst(due);
        waits(due);
        waitsGoOn(due);
        partTakers(due);
        due.end();
    }

    private static void publishes(Due due) {
        MulticastTrees x = Nets.star(1);
        due.is("file 0", x.publish(0, 0, 1), 0);
        due.is("file 1", x.publish(0, 0, 16), 1);
        due.is("file 2", x.publish(5, 2, 3), 2);
        due.is("file 3", x.publish(0, 0, 2), 3);
        due.is("no more", x.publish(0, 0, 2), -1);
        due.is("block of 3", x.emit(3), 0);
        due.is("the end of 0", x.emit(0), 0);
        due.is("the end of 0", x.emit(0), 1);
        due.is("files have their own blocks", x.have(1, 1), 0);
        due.is("file 3 at 1", x.have(3, 1), 1);
    }

    private static void emits(Due due) {
        MulticastTrees x = Nets.star(1, 2);
        x.publish(0, 0, 16);
        for (int b = 0; b < 16; b++) due.is("block " + b, x.emit(0), b);
        due.is("the end", x.emit(0), 16);
        due.is("the end again", x.emit(0), 16);
        due.is("all at 1", x.have(0, 1), 65535);
        due.is("all at 2", x.have(0, 2), 65535);
        due.is("none at 3", x.have(0, 3), 0);
        due.is("nothing is missing", x.requests(0), 0);
    }

    private static void emitIsAPacket(Due due) {
        MulticastTrees x = Nets.star(1, 2);
        x.publish(3, 0, 2);
        x.lose(2, 1);
        x.emit(0);
        due.is("crossings", x.crossings(), 2);
        due.is("reached", x.reached(), 6);
        due.is("heard", x.heard(), 2);
        due.is("a register", x.messages(6), 1);
        due.is("source joins are settled", x.entry(1, 3, 0), 1 + 8 + 16);
        due.is("the sender's LAN has no member", x.have(0, 3), 0);
        x.join(3, 0, 0);
        x.emit(0);
        due.is("with one it hears its own", x.have(0, 3), 2);
    }

    private static void emitRefused(Due due) {
        MulticastTrees x = Nets.star(1);
        x.publish(0, 0, 2);
        x.publish(1, 1, 1);
        x.lose(1, 1);
        x.emit(0);
        x.emit(0);
        x.requests(0);
        x.pass(8);
        for (int k = 0; k < 5; k++) x.send(5 - k, 2);
        due.is("refused by send", x.emit(0), -1);
        due.is("the other too", x.emit(1), -1);
        x.pass(8);
        due.is("the repair was kept", x.emit(0), 0);
        due.is("then the end", x.emit(0), 2);
        due.is("the next block was kept", x.emit(1), 0);
    }

    private static void onlyMembersKeep(Due due) {
        MulticastTrees x = Nets.star(1, 2);
        x.publish(0, 0, 3);
        x.leave(2, 0, 0, false);
        x.emit(0);
        due.is("LAN 2 heard it, being marked", x.heard(), 6);
        due.is("but kept nothing", x.have(0, 2), 0);
        x.join(2, 3, 0);
        x.emit(0);
        due.is("any host will do", x.have(0, 2), 2);
        due.is("1 has both", x.have(0, 1), 3);
        due.is("2 asks for the first", x.requests(0), 1);
        x.leave(2, 3, 0, false);
        due.is("not without a member", x.requests(0), 0);
    }

    private static void horizons(Due due) {
        MulticastTrees x = Nets.star(1);
        x.publish(0, 0, 3);
        due.is("nothing is known", x.requests(0), 0);
        x.lose(1, 1);
        x.emit(0);
        due.is("the horizon is 0", x.requests(0), 0);
        x.emit(0);
        due.is("block 0 is missing below 1", x.requests(0), 1);
        x.lose(1, 1);
        due.is("repair", x.emit(0), 0);
        due.is("lost again", x.have(0, 1), 2);
        x.lose(1, 1);
        due.is("the last block", x.emit(0), 2);
        due.is("asked for 0 alone", x.requests(0), 1);
        due.is("repair again", x.emit(0), 0);
        due.is("a repair does not lower the horizon, nor raise it", x.requests(0), 0);
        x.lose(1, 1);
        due.is("the end", x.emit(0), 3);
        due.is("was lost", x.requests(0), 0);
        due.is("the end again", x.emit(0), 3);
        due.is("shows that 2 is missing", x.requests(0), 1);
        due.is("repair of 2", x.emit(0), 2);
        due.is("all is there", x.have(0, 1), 7);
        due.is("no more requests", x.requests(0), 0);
        due.is("messages 8", x.messages(8), 3);
        due.is("messages 9", x.messages(9), 0);
    }

    private static void repairsComeFirst(Due due) {
        MulticastTrees x = Nets.star(1, 2);
        x.publish(0, 0, 6);
        x.lose(1, 2);
        x.emit(0);
        x.emit(0);
        x.lose(2, 1);
        x.emit(0);
        x.emit(0);
        due.is("at 1", x.have(0, 1), 12);
        due.is("at 2", x.have(0, 2), 11);
        due.is("both ask", x.requests(0), 2);
        due.is("lowest", x.emit(0), 0);
        x.lose(1, 1);
        due.is("next", x.emit(0), 1);
        due.is("1 asks again, 2 too", x.requests(0), 2);
        due.is("1 again", x.emit(0), 1);
        due.is("2 once", x.emit(0), 2);
        due.is("then the next block", x.emit(0), 4);
        due.is("and the last", x.emit(0), 5);
        due.is("the end", x.emit(0), 6);
        due.is("all at 1", x.have(0, 1), 63);
        due.is("all at 2", x.have(0, 2), 63);
    }

    /** The first waits that are drawn are 6, 6, 1, 3, 3, 3, 2, 3. */
    private static void waits(Due due) {
        MulticastTrees x = Nets.star(1, 2, 3, 4);
        x.publish(0, 0, 4);
        x.lose(1, 1);
        x.lose(2, 2);
        x.lose(3, 1);
        x.lose(4, 3);
        for (int b = 0; b < 4; b++) x.emit(0);
        // LAN 1 misses 0; LAN 2 misses 0, 1; LAN 3 misses 0; LAN 4 misses 0, 1, 2. Waits: 6, 6, 1, 3.
        due.is("3 asks, then 4; 1 and 2 are silent", x.requests(0), 2);
        due.is("requests", x.messages(8), 2);
        due.is("silences", x.messages(9), 2);
        // Waits: 3, 3, 2, 3, so 3 comes first.
        due.is("3 asks, 1 is silent, 2 and 4 ask for more", x.requests(0), 3);
        due.is("requests then", x.messages(8), 5);
        due.is("silences then", x.messages(9), 3);
    }

    private static void waitsGoOn(Due due) {
        MulticastTrees x = Nets.star(1, 2);
        x.publish(0, 0, 3);
        x.publish(0, 0, 3);
        x.lose(1, 1);
        x.lose(2, 2);
        for (int b = 0; b < 3; b++) x.emit(0);
        // LAN 1 misses 0, LAN 2 misses 0, 1: two requests if 1 does not come after 2.
        due.is("waits 6, 6: by their numbers", x.requests(0), 2);
        due.is("waits 1, 3", x.requests(0), 2);
        due.is("a file without missing blocks draws none", x.requests(1), 0);
        due.is("waits 3, 3", x.requests(0), 2);
        due.is("waits 2, 3", x.requests(0), 2);
        due.is("waits 4, 6", x.requests(0), 2);
        due.is("waits 5, 7", x.requests(0), 2);
        due.is("waits 4, 4", x.requests(0), 2);
        due.is("waits 1, 7", x.requests(0), 2);
        due.is("waits 1, 7", x.requests(0), 2);
        due.is("waits 1, 6", x.requests(0), 2);
        due.is("waits 6, 2: 2 comes first", x.requests(0), 1);
    }

    private static void partTakers(Due due) {
        MulticastTrees x = Nets.star(0, 1, 2);
        x.publish(0, 0, 2);
        x.lose(0, 1);
        x.lose(1, 1);
        x.lose(2, 1);
        x.emit(0);
        x.emit(0);
        x.link(0, 2, 0);
        due.is("2 is not connected: one asks", x.requests(0), 1);
        due.is("the other is silent", x.messages(9), 1);
        x.link(0, 1, 0);
        due.is("the source's own LAN takes part", x.requests(0), 1);
        due.is("alone", x.messages(9), 1);
        due.is("the repair", x.emit(0), 0);
        due.is("at 0", x.have(0, 0), 3);
        due.is("not at 1", x.have(0, 1), 2);
        due.is("nobody takes part", x.requests(0), 0);
        x.link(1, 2, 1);
        due.is("connected, but not with the source", x.requests(0), 0);
    }
}
