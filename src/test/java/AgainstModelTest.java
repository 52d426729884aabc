import java.util.ArrayList;
import java.util.List;
import java.util.Random;

/** All promises: runs of calls, drawn from fixed seeds, on the program and on PlainModel side by side. */
public final class AgainstModelTest {
    /** With the 180 looks at its end, and two calls in its last step, a run stays within the document's 512 calls. */
    private static final int CALLS = 330;
    private static final int RUNS = 600;

    private final Due due;
    private final Random random;
    private final MulticastTrees x;
    private final PlainModel model;
    private final List<String> calls = new ArrayList<>();
    /** A stream that most packets of the run belong to, so that trees grow. */
    private final int source;
    private final int group;
    private final int wildness;

    private AgainstModelTest(Due due, int seed) {
        this.due = due;
        random = new Random(seed);
        int meet = random.nextInt(8) - 1;
        x = new MulticastTrees(meet);
        model = new PlainModel(meet);
        calls.add("seed " + seed + ", new MulticastTrees(" + meet + ")");
        source = random.nextInt(6);
        group = random.nextInt(3);
        wildness = 1 + random.nextInt(12);
    }

    public static void main(String[] args) {
        Due due = new Due();
        for (int seed = 1; seed <= RUNS && !due.failed(); seed++) {
            AgainstModelTest run = new AgainstModelTest(due, seed);
            run.links();
            while (run.calls.size() < CALLS && !due.failed()) run.step();
            if (!due.failed()) run.lookAtAll();
            if (due.failed()) run.tellCalls();
        }
        due.end();
    }

    private void tellCalls() {
        for (String call : calls) System.out.println("  " + call);
    }

    private void same(String call, long got, long want) {
        calls.add(call + " -> " + want);
        due.is(call, got, want);
    }

    private void same(String call, boolean got, boolean want) {
        same(call, got ? 1 : 0, want ? 1 : 0);
    }

    /** A number below the bound, or now and then one just outside. */
    private int some(int bound) {
        if (random.nextInt(60) == 0) return random.nextBoolean() ? -1 : bound;
        return random.nextInt(bound);
    }

    private int someGroup() {
        return random.nextInt(12) < wildness ? some(3) : group;
    }

    private int someSource() {
        return random.nextInt(12) < wildness ? some(6) : source;
    }

    private void links() {
        int count = 4 + random.nextInt(10);
        for (int k = 0; k < count; k++) link(1 + random.nextInt(9));
    }

    private void link(int cost) {
        int a = some(6);
        int b = some(6);
        same("link(" + a + ", " + b + ", " + cost + ")", x.link(a, b, cost), model.link(a, b, cost));
    }

    private void step() {
        int kind = random.nextInt(100);
        if (kind < 5) link(random.nextInt(3) == 0 ? 0 : random.nextInt(4) == 0 ? some(10) : 1 + random.nextInt(3));
        else if (kind < 18) join();
        else if (kind < 24) leave();
        else if (kind < 36) pass();
        else if (kind < 56) send();
        else if (kind < 60) lose();
        else if (kind < 62) publish();
        else if (kind < 76) emit();
        else if (kind < 82) requests();
        else look(random.nextInt(5));
    }

    private void join() {
        int l = some(6);
        int h = some(4);
        int g = someGroup();
        same("join(" + l + ", " + h + ", " + g + ")", x.join(l, h, g), model.join(l, h, g));
    }

    private void leave() {
        int l = some(6);
        int h = some(4);
        int g = someGroup();
        boolean tells = random.nextInt(3) > 0;
        String call = "leave(" + l + ", " + h + ", " + g + ", " + tells + ")";
        same(call, x.leave(l, h, g, tells), model.leave(l, h, g, tells));
    }

    private void pass() {
        int n = random.nextInt(3) == 0 ? random.nextInt(12) : 1 + random.nextInt(3);
        same("pass(" + n + ")", x.pass(n), model.pass(n));
    }

    private void send() {
        int s = someSource();
        int g = someGroup();
        same("send(" + s + ", " + g + ")", x.send(s, g), model.send(s, g));
        lookAtPacket();
    }

    private void lookAtPacket() {
        int which = random.nextInt(4);
        if (which == 0) same("crossings()", x.crossings(), model.crossings());
        else if (which == 1) same("drops()", x.drops(), model.drops());
        else if (which == 2) same("reached()", x.reached(), model.reached());
        else same("heard()", x.heard(), model.heard());
    }

    private void lose() {
        int l = some(6);
        int c = random.nextInt(4) == 0 ? some(10) : random.nextInt(3);
        same("lose(" + l + ", " + c + ")", x.lose(l, c), model.lose(l, c));
    }

    private void publish() {
        int s = someSource();
        int g = someGroup();
        int blocks = random.nextInt(19) - 1;
        String call = "publish(" + s + ", " + g + ", " + blocks + ")";
        same(call, x.publish(s, g, blocks), model.publish(s, g, blocks));
    }

    private void emit() {
        int f = some(4);
        same("emit(" + f + ")", x.emit(f), model.emit(f));
    }

    private void requests() {
        int f = some(4);
        same("requests(" + f + ")", x.requests(f), model.requests(f));
    }

    private void look(int what) {
        int n = some(6);
        int s = someSource();
        int g = someGroup();
        if (what == 0) same("distance(" + n + ", " + s + ")", x.distance(n, s), model.distance(n, s));
        else if (what == 1) same("hop(" + n + ", " + s + ")", x.hop(n, s), model.hop(n, s));
        else if (what == 2) same("marked(" + n + ", " + g + ")", x.marked(n, g), model.marked(n, g));
        else if (what == 3) same("shared(" + n + ", " + g + ")", x.shared(n, g), model.shared(n, g));
        else same("entry(" + n + ", " + s + ", " + g + ")", x.entry(n, s, g), model.entry(n, s, g));
    }

    private void lookAtAll() {
        for (int kind = -1; kind < 11; kind++) same("messages(" + kind + ")", x.messages(kind), model.messages(kind));
        for (int n = 0; n < 6; n++) {
            for (int g = 0; g < 3; g++) {
                same("marked(" + n + ", " + g + ")", x.marked(n, g), model.marked(n, g));
                same("shared(" + n + ", " + g + ")", x.shared(n, g), model.shared(n, g));
                for (int s = 0; s < 6; s++) {
                    same("entry(" + n + ", " + s + ", " + g + ")", x.entry(n, s, g), model.entry(n, s, g));
                }
            }
            for (int f = 0; f < 4; f++) same("have(" + f + ", " + n + ")", x.have(f, n), model.have(f, n));
        }
    }
}
