import java.util.Random;

/** Any numbers, in any state and far beyond the 512th call: no call throws, and each answer stays in its range. */
public final class AnyNumbersTest {
    private static final int RUNS = 20;
    private static final int CALLS = 20000;
    private static final int LONGEST_WAY = 5 * 9;
    private static final int FULLEST_ENTRY = 1 + 2 + 4 + 8 + 16 * 6;
    private static final int ALL_LANS = (1 << 6) - 1;
    private static final int ALL_BLOCKS = (1 << 16) - 1;
    private static final int[] ENDS = {
        Integer.MIN_VALUE, Integer.MIN_VALUE + 1, Integer.MAX_VALUE - 1, Integer.MAX_VALUE,
    };

    private final Due due;
    private final Random random;
    private final MulticastTrees x;

    private AnyNumbersTest(Due due, int seed) {
        this.due = due;
        random = new Random(seed);
        x = new MulticastTrees(any());
    }

    public static void main(String[] args) {
        Due due = new Due();
        for (int seed = 1; seed <= RUNS && !due.failed(); seed++) {
            AnyNumbersTest run = new AnyNumbersTest(due, seed);
            due.by("Seed " + seed, "any numbers in any state");
            for (int k = 0; k < CALLS && !due.failed(); k++) run.step(run.random.nextInt(20));
        }
        due.end();
    }

    /** Mostly a number that some call takes, else one near it, one of the ends of int, or any int. */
    private int any() {
        int kind = random.nextInt(50);
        if (kind == 0) return random.nextInt();
        if (kind == 1) return ENDS[random.nextInt(ENDS.length)];
        if (kind < 10) return random.nextInt(40) - 20;
        return random.nextInt(6);
    }

    private void within(String call, int answer, int least, int most) {
        due.yes(call + " is " + answer + ", within " + least + " to " + most, answer >= least && answer <= most);
    }

    private void step(int call) {
        if (call < 8) change(call);
        else if (call < 14) look(call);
        else lookAtPacketOrFile(call);
    }

    private void change(int call) {
        if (call == 0) x.link(any(), any(), any());
        else if (call == 1) x.join(any(), any(), any());
        else if (call == 2) x.leave(any(), any(), any(), random.nextBoolean());
        else if (call == 3) x.pass(any());
        else if (call == 4) x.lose(any(), any());
        else if (call == 5) within("publish", x.publish(any(), any(), any()), -1, 3);
        else if (call == 6) within("emit", x.emit(any()), -1, 16);
        else within("send", x.send(any(), any()), -1, 6);
    }

    private void look(int call) {
        if (call == 8) within("distance", x.distance(any(), any()), -1, LONGEST_WAY);
        else if (call == 9) within("hop", x.hop(any(), any()), -1, 5);
        else if (call == 10) within("marked", x.marked(any(), any()), -1, 12);
        else if (call == 11) within("shared", x.shared(any(), any()), -1, 5);
        else if (call == 12) within("entry", x.entry(any(), any(), any()), -1, FULLEST_ENTRY);
        else within("messages", x.messages(any()), -1, Integer.MAX_VALUE);
    }

    private void lookAtPacketOrFile(int call) {
        if (call == 14) within("crossings", x.crossings(), 0, 6 * 5);
        else if (call == 15) within("drops", x.drops(), 0, x.crossings());
        else if (call == 16) within("reached", x.reached(), 0, ALL_LANS);
        else if (call == 17) within("heard beside reached", x.heard() & ~x.reached(), 0, 0);
        else if (call == 18) within("requests", x.requests(any()), -1, 6);
        else within("have", x.have(any(), any()), -1, ALL_BLOCKS);
    }
}
