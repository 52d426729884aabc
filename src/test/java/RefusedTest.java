import java.util.ArrayList;
import java.util.List;

/**
 * "A call that is refused, because a number is not in its range or for what is said there, changes nothing."
 * Two objects go through the same calls, and one of them, in between, through a call that is refused: all that
 * can be seen of them then, and what they answer from there on, must be the same.
 */
public final class RefusedTest {
    private interface Call {
        long on(MulticastTrees x);
    }

    private record Refusal(String text, long due, Call call) {
    }

    /** The calls before the refused one; in all a run stays within the document's 512 calls. */
    private interface Story {
        MulticastTrees tell();
    }

    private final Due due = new Due();
    private final List<Refusal> refusals = new ArrayList<>();

    public static void main(String[] args) {
        RefusedTest test = new RefusedTest();
        test.due.by("Terms", "A call that is refused [..] changes nothing.");
        test.collectOutside();
        test.collectFresh();
        test.compareAll("new object", () -> new MulticastTrees(2));
        test.refusals.clear();
        test.collectOutside();
        test.collectBusy();
        test.compareAll("in use", RefusedTest::busy);
        test.collectFull();
        test.compareAll("full", RefusedTest::full);
        test.due.end();
    }

    private void no(String text, Call call) {
        refusals.add(new Refusal(text, 0, call));
    }

    private void minus(String text, Call call) {
        refusals.add(new Refusal(text, -1, call));
    }

    private static long number(boolean answer) {
        return answer ? 1 : 0;
    }

    // ---- the refused calls

    /** Those that are refused in every state, as a number is not in its range. */
    private void collectOutside() {
        for (int w : Outside.ROUTERS) outsideRouters(w);
        for (int w : Outside.HOSTS) outsideHosts(w);
        for (int w : Outside.GROUPS) outsideGroups(w);
        for (int w : Outside.FILES) outsideFiles(w);
        for (int w : Outside.COSTS) {
            no("link(0, 1, " + w + ")", x -> number(x.link(0, 1, w)));
            no("link(4, 5, " + w + ")", x -> number(x.link(4, 5, w)));
        }
        for (int w : Outside.TICKS) no("pass(" + w + ")", x -> number(x.pass(w)));
        for (int w : Outside.KINDS) minus("messages(" + w + ")", x -> x.messages(w));
        for (int w : Outside.LOSSES) no("lose(1, " + w + ")", x -> number(x.lose(1, w)));
        for (int w : Outside.BLOCKS) minus("publish(1, 0, " + w + ")", x -> x.publish(1, 0, w));
        for (int n = 0; n < 6; n++) {
            int a = n;
            no("link to itself", x -> number(x.link(a, a, 2)));
            no("no link to itself", x -> number(x.link(a, a, 0)));
        }
    }

    private void outsideRouters(int w) {
        no("link(" + w + ", 1, 2)", x -> number(x.link(w, 1, 2)));
        no("link(1, " + w + ", 2)", x -> number(x.link(1, w, 2)));
        no("link(" + w + ", 1, 0)", x -> number(x.link(w, 1, 0)));
        minus("distance(" + w + ", 1)", x -> x.distance(w, 1));
        minus("distance(1, " + w + ")", x -> x.distance(1, w));
        minus("hop(" + w + ", 1)", x -> x.hop(w, 1));
        minus("hop(1, " + w + ")", x -> x.hop(1, w));
        no("join(" + w + ", 3, 0)", x -> number(x.join(w, 3, 0)));
        no("leave(" + w + ", 0, 0, true)", x -> number(x.leave(w, 0, 0, true)));
        no("leave(" + w + ", 0, 0, false)", x -> number(x.leave(w, 0, 0, false)));
        minus("marked(" + w + ", 0)", x -> x.marked(w, 0));
        minus("send(" + w + ", 0)", x -> x.send(w, 0));
        minus("shared(" + w + ", 0)", x -> x.shared(w, 0));
        minus("entry(" + w + ", 3, 0)", x -> x.entry(w, 3, 0));
        minus("entry(2, " + w + ", 0)", x -> x.entry(2, w, 0));
        no("lose(" + w + ", 1)", x -> number(x.lose(w, 1)));
        minus("publish(" + w + ", 0, 1)", x -> x.publish(w, 0, 1));
        minus("have(0, " + w + ")", x -> x.have(0, w));
    }

    private void outsideHosts(int w) {
        no("join(1, " + w + ", 0)", x -> number(x.join(1, w, 0)));
        no("leave(1, " + w + ", 0, true)", x -> number(x.leave(1, w, 0, true)));
        no("leave(1, " + w + ", 0, false)", x -> number(x.leave(1, w, 0, false)));
    }

    private void outsideGroups(int w) {
        no("join(1, 3, " + w + ")", x -> number(x.join(1, 3, w)));
        no("leave(1, 0, " + w + ", true)", x -> number(x.leave(1, 0, w, true)));
        no("leave(1, 0, " + w + ", false)", x -> number(x.leave(1, 0, w, false)));
        minus("marked(1, " + w + ")", x -> x.marked(1, w));
        minus("send(3, " + w + ")", x -> x.send(3, w));
        minus("shared(1, " + w + ")", x -> x.shared(1, w));
        minus("entry(2, 3, " + w + ")", x -> x.entry(2, 3, w));
        minus("publish(3, " + w + ", 1)", x -> x.publish(3, w, 1));
    }

    private void outsideFiles(int w) {
        minus("emit(" + w + ")", x -> x.emit(w));
        minus("requests(" + w + ")", x -> x.requests(w));
        minus("have(" + w + ", 1)", x -> x.have(w, 1));
    }

    private void collectFresh() {
        no("link(0, 1, 0), where none is", x -> number(x.link(0, 1, 0)));
        no("leave of no member", x -> number(x.leave(1, 0, 0, true)));
        minus("distance(0, 1), not connected", x -> x.distance(0, 1));
        minus("hop(0, 1), not connected", x -> x.hop(0, 1));
        minus("hop(1, 1)", x -> x.hop(1, 1));
        minus("shared(1, 0), nowhere", x -> x.shared(1, 0));
        minus("emit(0), of no file", x -> x.emit(0));
        minus("requests(0), of no file", x -> x.requests(0));
        minus("have(0, 0), of no file", x -> x.have(0, 0));
    }

    private void collectBusy() {
        no("the cost that it has", x -> number(x.link(0, 1, 1)));
        no("the cost that it has, back", x -> number(x.link(1, 0, 1)));
        no("no link, where none is", x -> number(x.link(0, 2, 0)));
        no("no link, where none is any more", x -> number(x.link(5, 4, 0)));
        no("a member already", x -> number(x.join(1, 0, 0)));
        no("a member already, not the reporter", x -> number(x.join(2, 0, 0)));
        no("no member", x -> number(x.leave(1, 3, 0, true)));
        no("no member any more, but the reporter", x -> number(x.leave(4, 0, 0, true)));
        no("no member of this group", x -> number(x.leave(1, 0, 2, true)));
    }

    private void collectFull() {
        minus("a fifth file", x -> x.publish(1, 0, 3));
        minus("a fifth file of the stream of the first", x -> x.publish(3, 0, 4));
        minus("a sixth stream", x -> x.send(5, 0));
        minus("a sixth stream of a source that sends", x -> x.send(1, 1));
        minus("a sixth stream by a file, its repair", x -> x.emit(1));
        minus("a sixth stream by a file, its first block", x -> x.emit(3));
    }

    // ---- the calls before

    private static MulticastTrees busy() {
        MulticastTrees x = Nets.line(0, 0, 1, 2, 3, 0);
        x.link(3, 4, 2);
        x.link(4, 5, 1);
        x.link(4, 5, 0);
        x.join(1, 0, 0);
        x.join(2, 0, 0);
        x.join(2, 2, 0);
        x.join(4, 0, 0);
        x.join(4, 1, 0);
        x.join(4, 2, 1);
        x.join(0, 3, 2);
        x.publish(3, 0, 6);
        x.publish(0, 0, 3);
        x.publish(4, 1, 2);
        loseAndAsk(x);
        x.lose(1, 1);
        x.lose(2, 3);
        x.pass(8);
        x.leave(4, 0, 0, false);
        x.emit(2);
        x.send(3, 0);
        x.send(3, 0);
        x.pass(1);
        return x;
    }

    /** LAN 1 has less to ask for than LAN 2, so that the order of the waits shows in later rounds. */
    private static void loseAndAsk(MulticastTrees x) {
        x.lose(1, 1);
        x.lose(2, 2);
        x.emit(1);
        x.emit(1);
        x.emit(1);
        x.lose(1, 1);
        x.lose(2, 2);
        x.emit(0);
        x.emit(0);
        x.emit(0);
        x.requests(1);
        x.requests(0);
        x.emit(0);
    }

    private static MulticastTrees full() {
        MulticastTrees x = busy();
        x.publish(5, 2, 2);
        x.send(0, 1);
        x.send(2, 2);
        x.send(1, 0);
        return x;
    }

    // ---- all that can be seen, and the calls after

    private void compareAll(String state, Story story) {
        List<Long> plain = lookAndGoOn(story.tell());
        for (Refusal r : refusals) {
            MulticastTrees x = story.tell();
            due.is(state + ": " + r.text, r.call.on(x), r.due);
            List<Long> then = lookAndGoOn(x);
            int k = firstOther(plain, then);
            if (k >= 0) due.is(state + ", after " + r.text + ": answer " + k, then.get(k), plain.get(k));
        }
    }

    private static int firstOther(List<Long> plain, List<Long> then) {
        for (int k = 0; k < plain.size(); k++) {
            if (!plain.get(k).equals(then.get(k))) return k;
        }
        return -1;
    }

    private static List<Long> lookAndGoOn(MulticastTrees x) {
        List<Long> answers = new ArrayList<>();
        look(x, answers);
        goOnSending(x, answers);
        goOnLeaving(x, answers);
        goOnPublishing(x, answers);
        lookAtCounts(x, answers);
        return answers;
    }

    private static void look(MulticastTrees x, List<Long> answers) {
        for (int n = 0; n < 6; n++) {
            for (int m = 0; m < 6; m++) {
                answers.add((long) x.distance(n, m));
                answers.add((long) x.hop(n, m));
            }
            for (int g = 0; g < 3; g++) {
                answers.add((long) x.marked(n, g));
                answers.add((long) x.shared(n, g));
                for (int s = 0; s < 6; s++) answers.add((long) x.entry(n, s, g));
            }
        }
        lookAtPacket(x, answers);
        lookAtCounts(x, answers);
    }

    private static void lookAtPacket(MulticastTrees x, List<Long> answers) {
        answers.add((long) x.crossings());
        answers.add((long) x.drops());
        answers.add((long) x.reached());
        answers.add((long) x.heard());
    }

    private static void lookAtCounts(MulticastTrees x, List<Long> answers) {
        for (int kind = 0; kind < 10; kind++) answers.add((long) x.messages(kind));
        for (int f = 0; f < 4; f++) {
            for (int l = 0; l < 6; l++) answers.add((long) x.have(f, l));
        }
    }

    /** Shows losses, the time QUIET, repairs, next blocks, horizons and waits. */
    private static void goOnSending(MulticastTrees x, List<Long> answers) {
        for (int k = 0; k < 4; k++) {
            answers.add((long) x.requests(0));
            answers.add((long) x.requests(1));
        }
        for (int k = 0; k < 5; k++) {
            answers.add((long) x.send(3, 0));
            lookAtPacket(x, answers);
            answers.add((long) x.emit(0));
            answers.add((long) x.messages(6));
            answers.add((long) x.requests(0));
        }
    }

    /** Shows members, reporters, marks and the clock. */
    private static void goOnLeaving(MulticastTrees x, List<Long> answers) {
        for (int l = 1; l < 5; l++) {
            for (int h = 0; h < 4; h++) answers.add(number(x.leave(l, h, 0, true)));
            answers.add((long) x.marked(l, 0));
        }
        for (int k = 0; k < 8; k++) {
            answers.add(number(x.pass(1)));
            answers.add((long) x.marked(4, 1));
            answers.add((long) x.entry(3, 3, 0));
        }
    }

    /** Shows the files and their next blocks, where no stream runs any more. */
    private static void goOnPublishing(MulticastTrees x, List<Long> answers) {
        answers.add((long) x.publish(1, 1, 1));
        for (int f = 0; f < 4; f++) {
            answers.add((long) x.emit(f));
            answers.add((long) x.emit(f));
        }
    }
}
