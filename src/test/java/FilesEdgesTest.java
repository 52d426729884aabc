import java.math.BigInteger;

/** The sentences on boundary cases of the term FILES and of the promises 18 to 21, one after the other. */
public final class FilesEdgesTest {
    public static void main(String[] args) {
        Due due = new Due();
        numbersOfFiles(due);
        publishOfNothing(due);
        blocksOutside(due);
        leastAndMostBlocks(due);
        fourFiles(due);
        nextIsNoughtAtFirst(due);
        nextIsTheLength(due);
        repairsFirst(due);
        repairLeavesThoughLost(due);
        repairAfterTheEnd(due);
        onlyHeard(due);
        onlyWithAMember(due);
        ofItsOwnStream(due);
        gotBefore(due);
        horizonIfLess(due);
        missingBelowTheHorizon(due);
        horizonOfTheEnd(due);
        emitOfNoFile(due);
        emitRefusedBySend(due);
        emitOfARunningStream(due);
        onlyConnected(due);
        onlyMembers(due);
        onlyMissing(due);
        waitsWrap(due);
        waitsOfThisNet(due);
        equalWaits(due);
        onlyThoseTakingPartDraw(due);
        silentIfAllAsked(due);
        notSilentIfSomeAsked(due);
        silentByTwoRequests(due);
        askedInThisRound(due);
        besidesThoseThatWere(due);
        nobodyTakesPart(due);
        requestsOfNoFile(due);
        sumOfBlocks(due);
        haveOfNothing(due);
        due.end();
    }

    private static void numbersOfFiles(Due due) {
        due.by("FILES", "FILES, at most 4, numbered from 0 as they are published.");
        MulticastTrees x = new MulticastTrees(0);
        for (int f = 0; f < 4; f++) {
            due.is("not published yet, " + f, x.have(f, 0), -1);
            due.is("publish", x.publish(f, f % 3, f + 1), f);
            due.is("published", x.have(f, 0), 0);
        }
        due.is("with its own length", x.emit(3), 0);
        due.is("and next block", x.emit(3), 1);
        due.is("the shortest", x.emit(0), 0);
        due.is("its end", x.emit(0), 1);
    }

    private static void publishOfNothing(Due due) {
        due.by("Promise 18", "-1, refused, if one does not exist");
        MulticastTrees x = new MulticastTrees(0);
        for (int wrong : Outside.ROUTERS) due.is("LAN " + wrong, x.publish(wrong, 1, 1), -1);
        for (int wrong : Outside.GROUPS) due.is("group " + wrong, x.publish(1, wrong, 1), -1);
        due.is("none was published", x.have(0, 0), -1);
        due.is("the first", x.publish(0, 0, 1), 0);
        due.is("the last of each", x.publish(5, 2, 16), 1);
    }

    private static void blocksOutside(Due due) {
        due.by("Promise 18", "blocks is not 1 .. 16");
        MulticastTrees x = new MulticastTrees(0);
        for (int wrong : Outside.BLOCKS) due.is("blocks " + wrong, x.publish(0, 0, wrong), -1);
        due.is("none was published", x.have(0, 0), -1);
        due.is("the first", x.publish(0, 0, 16), 0);
    }

    private static void leastAndMostBlocks(Due due) {
        due.by("FILES", "a length of 1 .. 16 BLOCKS");
        for (int length = 1; length <= 16; length++) {
            MulticastTrees x = Nets.star(1);
            due.is("publish with " + length, x.publish(0, 0, length), 0);
            for (int b = 0; b <= length; b++) due.is("emit", x.emit(0), b);
            due.is("all of " + length, x.have(0, 1), (1 << length) - 1);
        }
    }

    private static void fourFiles(Due due) {
        due.by("Promise 18", "or there are 4 files");
        MulticastTrees x = new MulticastTrees(0);
        for (int f = 0; f < 4; f++) due.is("the file", x.publish(5, 2, 1), f);
        due.is("a fifth", x.publish(5, 2, 1), -1);
        due.is("a fifth of another stream", x.publish(0, 0, 16), -1);
        due.is("file 3 is as it was", x.emit(3), 0);
        due.is("its end", x.emit(3), 1);
        for (int f = 0; f < 3; f++) {
            x.emit(f);
            x.emit(f);
        }
        due.is("though all are sent", x.publish(5, 2, 1), -1);
        due.is("there is no file 4", x.have(4, 0), -1);
    }

    private static void nextIsNoughtAtFirst(Due due) {
        due.by("FILES", "a NEXT block (0 at first) and REPAIRS (a set of blocks, empty at first)");
        MulticastTrees x = Nets.star(1);
        x.publish(0, 0, 2);
        for (int l = 0; l < 6; l++) due.is("nothing got", x.have(0, l), 0);
        due.is("nothing missing", x.requests(0), 0);
        due.is("the first block", x.emit(0), 0);
    }

    private static void nextIsTheLength(Due due) {
        due.by("Promise 19", "if there is none either (NEXT is the length) the END");
        MulticastTrees x = new MulticastTrees(0);
        x.publish(0, 0, 1);
        x.publish(0, 0, 16);
        due.is("the one block", x.emit(0), 0);
        for (int k = 0; k < 3; k++) due.is("the END, again and again", x.emit(0), 1);
        for (int b = 0; b < 16; b++) due.is("block", x.emit(1), b);
        for (int k = 0; k < 3; k++) due.is("the END of 16", x.emit(1), 16);
    }

    /** LAN 1 has lost the blocks 1 and 3 of the first five of eight, and asked for them. */
    private static MulticastTrees twoRepairs() {
        MulticastTrees x = Nets.star(1);
        x.publish(0, 0, 8);
        for (int b = 0; b < 5; b++) {
            if (b == 1 || b == 3) x.lose(1, 1);
            x.emit(0);
        }
        x.requests(0);
        return x;
    }

    private static void repairsFirst(Due due) {
        due.by("Promise 19", "the lowest of the repairs, which leaves them; if there is none the next block,"
            + " and NEXT grows by one");
        MulticastTrees x = twoRepairs();
        due.is("the lowest repair", x.emit(0), 1);
        due.is("the other one", x.emit(0), 3);
        due.is("the next block", x.emit(0), 5);
        due.is("and the one after it", x.emit(0), 6);
        due.is("all seven", x.have(0, 1), 127);
    }

    private static void repairLeavesThoughLost(Due due) {
        due.by("Promise 19", "the lowest of the repairs, which leaves them");
        MulticastTrees x = twoRepairs();
        x.lose(1, 1);
        due.is("the lowest repair", x.emit(0), 1);
        due.is("heard by none", x.heard(), 0);
        due.is("it left all the same", x.emit(0), 3);
        due.is("the next block", x.emit(0), 5);
        due.is("block 1 is still not there", x.have(0, 1), 63 - 2);
        due.is("and is asked for again", x.requests(0), 1);
        due.is("and sent", x.emit(0), 1);
    }

    private static void repairAfterTheEnd(Due due) {
        due.by("Promise 19", "the lowest of the repairs, which leaves them");
        MulticastTrees x = Nets.star(1);
        x.publish(0, 0, 1);
        x.lose(1, 1);
        x.emit(0);
        due.is("the END", x.emit(0), 1);
        due.is("a request", x.requests(0), 1);
        due.is("the repair, though NEXT is the length", x.emit(0), 0);
        due.is("the END again", x.emit(0), 1);
        due.is("got", x.have(0, 1), 1);
    }

    private static void onlyHeard(Due due) {
        due.by("Promise 19", "Each LAN that hears it");
        MulticastTrees x = Nets.star(1, 2);
        x.join(4, 0, 0);
        x.link(0, 4, 0);
        x.publish(0, 0, 2);
        x.lose(2, 1);
        x.emit(0);
        due.is("LAN 1 hears it", x.have(0, 1), 1);
        due.is("LAN 2 is reached, and does not hear it", x.have(0, 2), 0);
        due.is("LAN 4 is not reached", x.have(0, 4), 0);
    }

    private static void onlyWithAMember(Due due) {
        due.by("Promise 19", "and on which some host is a member of the group");
        for (int h = 0; h < 4; h++) {
            MulticastTrees x = Nets.star();
            x.join(1, h, 0);
            x.join(1, (h + 1) % 4, 1);
            x.publish(0, 0, 3);
            x.emit(0);
            due.is("member " + h, x.have(0, 1), 1);
            x.leave(1, h, 0, false);
            x.emit(0);
            due.is("heard, being marked", x.heard(), 2);
            due.is("but not kept, with a member of another group", x.have(0, 1), 1);
            x.emit(0);
            x.emit(0);
            x.join(1, h, 0);
            due.is("nor was its horizon moved, by a block or the END", x.requests(0), 0);
        }
    }

    private static void ofItsOwnStream(Due due) {
        due.by("Promise 19", "Sends one packet of file f, by its stream");
        for (int g = 0; g < 3; g++) {
            MulticastTrees x = Nets.star();
            for (int l = 1; l < 4; l++) x.join(l, 0, l - 1);
            x.publish(5, (g + 1) % 3, 1);
            x.publish(4, g, 2);
            x.lose(g + 1, 1);
            x.emit(1);
            due.is("reached in group " + g, x.reached(), 2 << g);
            due.is("the keepalive of 4", x.entry(4, 4, g) & 1, 1);
            x.emit(1);
            for (int l = 0; l < 6; l++) due.is("group " + g + ", LAN " + l, x.have(1, l), l == g + 1 ? 2 : 0);
            due.is("a member of the group asks", x.requests(1), 1);
            due.is("no other file was sent", x.emit(0), 0);
        }
    }

    private static void gotBefore(Due due) {
        due.by("Promise 19", "with a block b it has got b (now or before)");
        MulticastTrees x = Nets.star(1, 2);
        x.publish(0, 0, 3);
        x.lose(2, 1);
        x.emit(0);
        x.emit(0);
        x.requests(0);
        due.is("the repair", x.emit(0), 0);
        due.is("now, at 2", x.have(0, 2), 3);
        due.is("before, at 1", x.have(0, 1), 3);
    }

    private static void horizonIfLess(Due due) {
        due.by("Promise 19", "its horizon becomes b + 1, if it was less");
        MulticastTrees x = Nets.star(1);
        x.publish(0, 0, 4);
        x.lose(1, 2);
        for (int b = 0; b < 3; b++) x.emit(0);
        due.is("0 and 1 are missing below 3", x.requests(0), 1);
        due.is("the repair of 0", x.emit(0), 0);
        due.is("1 is still missing below 3", x.requests(0), 1);
        x.lose(1, 1);
        due.is("the repair of 1, lost", x.emit(0), 1);
        due.is("1 is still missing", x.requests(0), 1);
        due.is("the repair of 1", x.emit(0), 1);
        due.is("nothing is missing below 3", x.requests(0), 0);
        due.is("got", x.have(0, 1), 7);
    }

    private static void missingBelowTheHorizon(Due due) {
        due.by("FILES", "the blocks below the horizon that it has not got are MISSING there");
        MulticastTrees x = Nets.star(1);
        x.publish(0, 0, 16);
        x.emit(0);
        due.is("the horizon is 1, block 0 is got", x.requests(0), 0);
        x.lose(1, 1);
        x.emit(0);
        due.is("the horizon is 1, block 1 is not below it", x.requests(0), 0);
        x.emit(0);
        due.is("the horizon is 3, block 1 is below it", x.requests(0), 1);
        due.is("block 1 alone", x.emit(0), 1);
        due.is("then block 3", x.emit(0), 3);
    }

    private static void horizonOfTheEnd(Due due) {
        due.by("Promise 19", "with the END its horizon becomes the length");
        MulticastTrees x = Nets.star(1);
        x.publish(0, 0, 16);
        for (int b = 0; b < 16; b++) x.emit(0);
        x.join(2, 0, 0);
        due.is("LAN 2 knows of nothing", x.requests(0), 0);
        due.is("the END", x.emit(0), 16);
        due.is("got by the END", x.have(0, 2), 0);
        due.is("LAN 2 asks for all", x.requests(0), 1);
        for (int b = 0; b < 16; b++) due.is("repair", x.emit(0), b);
        due.is("the END again", x.emit(0), 16);
        due.is("all at 2", x.have(0, 2), 65535);
        due.is("none is missing", x.requests(0), 0);
    }

    private static void emitOfNoFile(Due due) {
        due.by("Promise 19", "-1, refused, if there is no such file");
        MulticastTrees x = Nets.star(0);
        due.is("none at all", x.emit(0), -1);
        for (int f = 0; f < 4; f++) {
            x.publish(0, 0, 1);
            for (int later = f + 1; later < 4; later++) due.is("not yet", x.emit(later), -1);
        }
        for (int wrong : Outside.FILES) due.is("emit(" + wrong + ")", x.emit(wrong), -1);
        due.is("no packet", x.reached(), 0);
    }

    private static void emitRefusedBySend(Due due) {
        due.by("Promise 19", "or the packet would be refused by send");
        MulticastTrees x = twoRepairs();
        x.publish(1, 1, 2);
        x.pass(8);
        for (int s = 0; s < 5; s++) x.send(s, 2);
        due.is("a sixth stream, with repairs", x.emit(0), -1);
        due.is("a sixth stream, with its first block", x.emit(1), -1);
        due.is("and again", x.emit(0), -1);
        x.pass(8);
        due.is("the repair is still there", x.emit(0), 1);
        due.is("and the other", x.emit(0), 3);
        due.is("and the next block", x.emit(0), 5);
        due.is("and the first of the other file", x.emit(1), 0);
    }

    private static void emitOfARunningStream(Due due) {
        due.by("Promise 19", "or the packet would be refused by send");
        MulticastTrees x = Nets.star(1);
        x.publish(0, 0, 2);
        x.publish(0, 0, 2);
        for (int s = 0; s < 5; s++) x.send(s, 0);
        due.is("one of the five", x.emit(0), 0);
        due.is("another file of its stream", x.emit(1), 0);
    }

    private static void onlyConnected(Due due) {
        due.by("Promise 20", "The LANs take part that are connected with s");
        MulticastTrees x = Nets.star(1, 2);
        x.publish(0, 0, 2);
        x.lose(1, 1);
        x.lose(2, 1);
        x.emit(0);
        x.emit(0);
        x.link(0, 1, 0);
        x.link(0, 2, 0);
        due.is("none is", x.requests(0), 0);
        x.link(1, 2, 1);
        due.is("with one another, not with s", x.requests(0), 0);
        x.link(2, 5, 1);
        due.is("both are, by 5", x.requests(0), 1);
        due.is("one is silent", x.messages(9), 1);
        MulticastTrees y = new MulticastTrees(0);
        y.join(3, 0, 0);
        y.publish(3, 0, 2);
        y.lose(3, 1);
        y.emit(0);
        y.emit(0);
        due.is("LAN s is, at distance 0", y.requests(0), 1);
    }

    private static void onlyMembers(Due due) {
        due.by("Promise 20", "on which some host is a member of g");
        MulticastTrees x = Nets.star(1);
        x.publish(0, 0, 2);
        x.lose(1, 1);
        x.emit(0);
        x.emit(0);
        x.leave(1, 0, 0, false);
        x.join(1, 0, 1);
        due.is("marked, and a member of another group", x.requests(0), 0);
        x.join(1, 3, 0);
        due.is("another host", x.requests(0), 1);
    }

    private static void onlyMissing(Due due) {
        due.by("Promise 20", "and at which blocks are missing");
        MulticastTrees x = Nets.star(1, 2);
        x.publish(0, 0, 2);
        x.publish(0, 0, 2);
        x.lose(2, 1);
        x.emit(0);
        x.emit(0);
        due.is("at 2 alone", x.requests(0), 1);
        due.is("1 is not silent, it takes no part", x.messages(9), 0);
        due.is("none of the other file", x.requests(1), 0);
        x.emit(0);
        due.is("repaired", x.requests(0), 0);
        due.is("one request in all", x.messages(8), 1);
    }

    /** LAN k has lost the first k + 1 of seven blocks: only one that has lost more than all before it asks. */
    private static MulticastTrees nested() {
        MulticastTrees x = Nets.star(0, 1, 2, 3, 4, 5);
        x.publish(0, 0, 7);
        for (int l = 0; l < 6; l++) x.lose(l, l + 1);
        for (int b = 0; b < 7; b++) x.emit(0);
        return x;
    }

    private static void waitsWrap(Due due) {
        due.by("Promise 20", "becomes x * 1103515245 + 12345 (as an int, it wraps), the wait is x >>> 16 & 7");
        MulticastTrees x = nested();
        BigInteger modulus = BigInteger.ONE.shiftLeft(32);
        BigInteger kept = BigInteger.ONE;
        int requests = 0;
        int silences = 0;
        for (int round = 0; round < 60; round++) {
            int[] wait = new int[6];
            for (int l = 0; l < 6; l++) {
                kept = kept.multiply(BigInteger.valueOf(1103515245)).add(BigInteger.valueOf(12345)).mod(modulus);
                wait[l] = kept.shiftRight(16).intValue() & 7;
            }
            int asking = askers(wait);
            due.is("round " + round, x.requests(0), asking);
            requests += asking;
            silences += 6 - asking;
        }
        due.is("requests", x.messages(8), requests);
        due.is("silences", x.messages(9), silences);
    }

    private static int askers(int[] wait) {
        int asking = 0;
        int most = -1;
        for (int w = 0; w < 8; w++) {
            for (int l = 0; l < 6; l++) {
                if (wait[l] != w || l < most) continue;
                most = l;
                asking++;
            }
        }
        return asking;
    }

    private static void waitsOfThisNet(Due due) {
        due.by("Promise 20", "a number x, kept by the net and 1 at first");
        MulticastTrees x = nested();
        MulticastTrees y = nested();
        // Waits of the LANs 0 to 5: 6 6 1 3 3 3 (2, 3, 4, 5 ask), then 2 3 4 6 5 7 (0, 1, 2, 3, 5 ask).
        due.is("the first round", x.requests(0), 4);
        due.is("the second goes on", x.requests(0), 5);
        due.is("another net begins anew", y.requests(0), 4);
        due.is("and goes on", y.requests(0), 5);
    }

    private static void equalWaits(Due due) {
        due.by("Promise 20", "equal ones in rising order of their numbers");
        MulticastTrees x = Nets.star(1, 2);
        x.publish(0, 0, 4);
        x.lose(1, 1);
        x.lose(2, 2);
        for (int b = 0; b < 4; b++) x.emit(0);
        due.is("both wait 6: 1, that lost less, comes first", x.requests(0), 2);
        MulticastTrees y = Nets.star(1, 2);
        y.publish(0, 0, 4);
        y.lose(1, 2);
        y.lose(2, 1);
        for (int b = 0; b < 4; b++) y.emit(0);
        due.is("both wait 6: 1, that lost more, comes first", y.requests(0), 1);
        due.is("2 is silent", y.messages(9), 1);
    }

    private static void onlyThoseTakingPartDraw(Due due) {
        due.by("Promise 20", "In rising order of their numbers each draws a WAIT");
        MulticastTrees x = Nets.star(1, 2, 3, 4, 5);
        x.publish(0, 0, 4);
        x.lose(1, 2);
        x.lose(3, 2);
        x.lose(5, 1);
        for (int b = 0; b < 4; b++) x.emit(0);
        x.leave(1, 0, 0, false);
        // 3 and 5 draw 6 and 6; had 1 drawn too, they would wait 6 and 1, and both would ask.
        due.is("3 asks first, 5 is silent", x.requests(0), 1);
        x.join(1, 0, 0);
        // 1, 3 and 5 draw 1, 3 and 3.
        due.is("1 asks first, 3 and 5 are silent", x.requests(0), 1);
        due.is("silences", x.messages(9), 3);
    }

    private static void silentIfAllAsked(Due due) {
        due.by("Promise 20", "a LAN all of whose missing blocks were asked for already in this round is silent");
        MulticastTrees x = Nets.star(1, 2);
        x.publish(0, 0, 3);
        x.lose(1, 2);
        x.lose(2, 2);
        for (int b = 0; b < 3; b++) x.emit(0);
        due.is("the same blocks", x.requests(0), 1);
        due.is("one request", x.messages(8), 1);
        due.is("one silence", x.messages(9), 1);
    }

    private static void notSilentIfSomeAsked(Due due) {
        due.by("Promise 20", "any other one sends one REQUEST, and all its missing blocks are asked for");
        MulticastTrees x = Nets.star(1, 2);
        x.publish(0, 0, 4);
        x.lose(1, 2);
        x.emit(0);
        x.lose(2, 2);
        x.emit(0);
        x.emit(0);
        x.emit(0);
        // LAN 1 lost 0 and 1, LAN 2 lost 1 and 2; the waits are 6 and 6.
        due.is("one of its two blocks was asked for", x.requests(0), 2);
        due.is("no silence", x.messages(9), 0);
        for (int b = 0; b < 3; b++) due.is("repair", x.emit(0), b);
        due.is("all at 1", x.have(0, 1), 15);
        due.is("all at 2", x.have(0, 2), 15);
    }

    private static void silentByTwoRequests(Due due) {
        due.by("Promise 20", "a LAN all of whose missing blocks were asked for already in this round is silent");
        MulticastTrees x = Nets.star(1, 2, 3);
        x.publish(0, 0, 4);
        x.lose(1, 1);
        x.lose(3, 2);
        x.emit(0);
        x.lose(2, 1);
        x.emit(0);
        x.emit(0);
        // LAN 1 lost 0, LAN 2 lost 1, LAN 3 lost both; the waits are 6, 6 and 1, then 3, 3 and 3.
        due.is("3 asks for both", x.requests(0), 1);
        due.is("1 and 2 are silent", x.messages(9), 2);
        due.is("1 and 2 ask for one each", x.requests(0), 2);
        due.is("3 is silent, by two requests together", x.messages(9), 3);
    }

    private static void askedInThisRound(Due due) {
        due.by("Promise 20", "all of whose missing blocks were asked for already in this round");
        MulticastTrees x = Nets.star(1);
        x.publish(0, 0, 2);
        x.lose(1, 1);
        x.emit(0);
        x.emit(0);
        for (int round = 1; round <= 3; round++) {
            due.is("asked for in the round before, and not sent yet", x.requests(0), 1);
            due.is("requests", x.messages(8), round);
        }
        due.is("no silence", x.messages(9), 0);
        due.is("a set of one", x.emit(0), 0);
        due.is("so it is sent once", x.emit(0), 2);
    }

    private static void besidesThoseThatWere(Due due) {
        due.by("Promise 20", "All blocks that were asked for are repairs now (besides those that were).");
        MulticastTrees x = Nets.star(1, 2);
        x.publish(0, 0, 3);
        x.lose(1, 1);
        x.emit(0);
        x.lose(2, 1);
        x.emit(0);
        x.emit(0);
        x.link(0, 2, 0);
        due.is("1 asks for 0", x.requests(0), 1);
        x.link(0, 2, 1);
        x.link(0, 1, 0);
        due.is("2 asks for 1", x.requests(0), 1);
        x.link(0, 1, 1);
        due.is("0 is still a repair", x.emit(0), 0);
        due.is("1 is one too", x.emit(0), 1);
        due.is("and no more", x.emit(0), 3);
    }

    private static void nobodyTakesPart(Due due) {
        due.by("Promise 20", "Answers how many requests were sent");
        MulticastTrees x = nested();
        x.publish(1, 1, 1);
        due.is("none takes part", x.requests(1), 0);
        due.is("no request", x.messages(8), 0);
        due.is("no silence", x.messages(9), 0);
        due.is("none drew a wait", x.requests(0), 4);
    }

    private static void requestsOfNoFile(Due due) {
        due.by("Promise 20", "-1, refused, if there is no such file");
        MulticastTrees x = Nets.star(0);
        due.is("none at all", x.requests(0), -1);
        for (int f = 0; f < 4; f++) {
            x.publish(0, 0, 1);
            for (int later = f + 1; later < 4; later++) due.is("not yet", x.requests(later), -1);
            due.is("published", x.requests(f), 0);
        }
        for (int wrong : Outside.FILES) due.is("requests(" + wrong + ")", x.requests(wrong), -1);
    }

    private static void sumOfBlocks(Due due) {
        due.by("Promise 21", "the sum of 1 << b");
        MulticastTrees x = Nets.star(1);
        x.publish(0, 0, 16);
        due.is("none", x.have(0, 1), 0);
        int sum = 0;
        for (int b = 0; b < 16; b++) {
            boolean lost = b % 3 == 1;
            x.lose(1, lost ? 1 : 0);
            x.emit(0);
            if (!lost) sum += 1 << b;
            due.is("after block " + b, x.have(0, 1), sum);
            due.is("at another LAN", x.have(0, 2), 0);
        }
    }

    private static void haveOfNothing(Due due) {
        due.by("Promise 21", "-1 if one does not exist");
        MulticastTrees x = Nets.star(0, 1, 2, 3, 4, 5);
        due.is("no file", x.have(0, 0), -1);
        for (int f = 0; f < 4; f++) {
            x.publish(0, 0, 1);
            for (int later = f + 1; later < 4; later++) due.is("not yet", x.have(later, 0), -1);
            x.emit(f);
        }
        for (int wrong : Outside.FILES) due.is("file " + wrong, x.have(wrong, 0), -1);
        for (int wrong : Outside.ROUTERS) due.is("LAN " + wrong, x.have(0, wrong), -1);
        for (int l = 0; l < 6; l++) due.is("LAN " + l, x.have(3, l), 1);
    }
}
