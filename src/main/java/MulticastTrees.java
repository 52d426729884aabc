import java.util.Arrays;

/** Multicast in an internetwork of six routers; the promises named here are those of the document. */
public final class MulticastTrees {
    private static final int ROUTERS = 6;
    private static final int HOSTS = 4;
    private static final int GROUPS = 3;
    private static final int STREAMS = ROUTERS * GROUPS;
    private static final int MAX_COST = 9;
    private static final int MAX_TICKS = 10;
    private static final int MAX_LOSSES = 9;
    private static final int MAX_FILES = 4;
    private static final int MAX_BLOCKS = 16;
    private static final int NONE = -1;
    private static final int REFUSED = -1;

    /** In a list (a set of bits) the routers have the bits of their numbers; this bit is the router's own LAN. */
    private static final int OWN_LAN = 1 << ROUTERS;

    /** Kinds of messages; for joins and cuts the kind is that of PLACED, and WITHDRAWN is the one after it. */
    private static final int SHARED_JOINS = 0;
    private static final int SOURCE_JOINS = 2;
    private static final int CUTS = 4;
    private static final int REGISTERS = 6;
    private static final int STOPS = 7;
    private static final int REQUESTS = 8;
    private static final int SILENCES = 9;
    private static final int KINDS = 10;

    private final Clock clock;
    private final Tally tally;
    private final Net net;
    private final Lans lans;
    private final Streams streams;
    private final Trees trees;
    private final Packets packets;
    private final Files files;

    public MulticastTrees(int meet) {
        int r = isRouter(meet) ? meet : 0;
        clock = new Clock();
        tally = new Tally();
        net = new Net();
        lans = new Lans(clock);
        streams = new Streams(clock);
        trees = new Trees(r, net, lans, streams, tally);
        packets = new Packets(net, lans, streams, trees, tally);
        files = new Files(net, lans, tally);
    }

    public boolean link(int a, int b, int cost) {
        if (!isRouter(a) || !isRouter(b) || a == b) return false;
        if (cost < 0 || cost > MAX_COST || cost == net.costOf(a, b)) return false;
        net.setCost(a, b, cost);
        trees.settle();
        return true;
    }

    public int distance(int a, int b) {
        if (!isRouter(a) || !isRouter(b) || !net.areConnected(a, b)) return NONE;
        return net.lengthOf(a, b);
    }

    public int hop(int a, int b) {
        if (!isRouter(a) || !isRouter(b)) return NONE;
        return net.nextTowards(a, b);
    }

    public boolean join(int l, int h, int g) {
        if (!isRouter(l) || !isHost(h) || !isGroup(g) || lans.isMember(l, h, g)) return false;
        lans.admit(l, h, g);
        trees.settle();
        return true;
    }

    public boolean leave(int l, int h, int g, boolean tells) {
        if (!isRouter(l) || !isHost(h) || !isGroup(g) || !lans.isMember(l, h, g)) return false;
        lans.dismiss(l, h, g, tells);
        trees.settle();
        return true;
    }

    public int marked(int l, int g) {
        if (!isRouter(l) || !isGroup(g)) return REFUSED;
        return lans.ticksLeft(l, g);
    }

    public boolean pass(int n) {
        if (n < 1 || n > MAX_TICKS) return false;
        for (int k = 0; k < n; k++) {
            clock.tick();
            streams.endStale();
            if (clock.isReportTime()) lans.reportAll();
            trees.settle();
        }
        return true;
    }

    public int send(int s, int g) {
        if (!isRouter(s) || !isGroup(g)) return REFUSED;
        if (!streams.hasRoomFor(streamOf(s, g))) return REFUSED;
        packets.dispatch(s, g);
        trees.settle();
        return Integer.bitCount(packets.heardBy());
    }

    public int crossings() {
        return packets.crossingCount();
    }

    public int drops() {
        return packets.dropCount();
    }

    public int reached() {
        return packets.reachedLans();
    }

    public int heard() {
        return packets.heardBy();
    }

    public int shared(int n, int g) {
        if (!isRouter(n) || !isGroup(g)) return NONE;
        return trees.sharedJoinOf(g, n);
    }

    public int entry(int n, int s, int g) {
        if (!isRouter(n) || !isRouter(s) || !isGroup(g)) return REFUSED;
        int stream = streamOf(s, g);
        int answer = 16 * Integer.bitCount(trees.outerList(stream, n));
        if (streams.isAlive(stream, n)) answer += 1;
        if (streams.isSwitched(stream, n)) answer += 2;
        if (trees.cutOf(stream, n) != NONE) answer += 4;
        if (trees.sourceJoinOf(stream, n) != NONE) answer += 8;
        return answer;
    }

    public int messages(int kind) {
        if (kind < 0 || kind >= KINDS) return REFUSED;
        return tally.countOf(kind);
    }

    public boolean lose(int l, int c) {
        if (!isRouter(l) || c < 0 || c > MAX_LOSSES) return false;
        lans.setLosses(l, c);
        return true;
    }

    public int publish(int s, int g, int blocks) {
        if (!isRouter(s) || !isGroup(g) || blocks < 1 || blocks > MAX_BLOCKS) return REFUSED;
        if (files.isFull()) return REFUSED;
        return files.create(s, g, blocks);
    }

    public int emit(int f) {
        if (!files.exists(f)) return REFUSED;
        // The turn is taken only after the packet went, as a refused one must leave the file as it was.
        if (send(files.sourceOf(f), files.groupOf(f)) == REFUSED) return REFUSED;
        int block = files.takeTurn(f);
        files.deliver(f, block, packets.heardBy());
        return block;
    }

    public int requests(int f) {
        if (!files.exists(f)) return REFUSED;
        return files.askAgain(f);
    }

    public int have(int f, int l) {
        if (!files.exists(f) || !isRouter(l)) return REFUSED;
        return files.blocksAt(f, l);
    }

    private static boolean isRouter(int n) {
        return n >= 0 && n < ROUTERS;
    }

    private static boolean isHost(int h) {
        return h >= 0 && h < HOSTS;
    }

    private static boolean isGroup(int g) {
        return g >= 0 && g < GROUPS;
    }

    private static int streamOf(int s, int g) {
        return s * GROUPS + g;
    }

    private static boolean holds(int set, int n) {
        return (set >> n & 1) != 0;
    }

    private static final class Clock {
        private static final int REPORT_EVERY = 5;

        private int now = 0;

        int time() {
            return now;
        }

        void tick() {
            now++;
        }

        boolean isReportTime() {
            return now % REPORT_EVERY == 0;
        }
    }

    private static final class Tally {
        private final int[] counts = new int[KINDS];

        void count(int kind) {
            counts[kind]++;
        }

        int countOf(int kind) {
            return counts[kind];
        }
    }

    /** Links, and the shortest paths along them, measured anew whenever a link changes. */
    private static final class Net {
        /** Above every sum of costs along a path, and far from wrapping when two are added. */
        private static final int UNREACHED = 1000;

        private final int[][] cost = new int[ROUTERS][ROUTERS];
        private final int[][] length = new int[ROUTERS][ROUTERS];
        private final int[][] next = new int[ROUTERS][ROUTERS];
        private final int[][] farFirst = new int[ROUTERS][ROUTERS];

        Net() {
            measure();
        }

        int costOf(int a, int b) {
            return cost[a][b];
        }

        void setCost(int a, int b, int c) {
            cost[a][b] = c;
            cost[b][a] = c;
            measure();
        }

        boolean areLinked(int a, int b) {
            return cost[a][b] != 0;
        }

        boolean areConnected(int a, int b) {
            return length[a][b] < UNREACHED;
        }

        int lengthOf(int a, int b) {
            return length[a][b];
        }

        int nextTowards(int a, int b) {
            return next[a][b];
        }

        /** The k-th router from the farthest on: each comes after all whose way to the target leads through it. */
        int fromFarthest(int target, int k) {
            return farFirst[target][k];
        }

        private void measure() {
            startLengths();
            for (int via = 0; via < ROUTERS; via++) shortenBy(via);
            for (int target = 0; target < ROUTERS; target++) {
                for (int a = 0; a < ROUTERS; a++) next[a][target] = findNext(a, target);
                orderTowards(target);
            }
        }

        private void startLengths() {
            for (int a = 0; a < ROUTERS; a++) {
                for (int b = 0; b < ROUTERS; b++) length[a][b] = areLinked(a, b) ? cost[a][b] : UNREACHED;
                length[a][a] = 0;
            }
        }

        private void shortenBy(int via) {
            for (int a = 0; a < ROUTERS; a++) {
                for (int b = 0; b < ROUTERS; b++) {
                    length[a][b] = Math.min(length[a][b], length[a][via] + length[via][b]);
                }
            }
        }

        private int findNext(int a, int target) {
            if (a == target || !areConnected(a, target)) return NONE;
            for (int n = 0; n < ROUTERS; n++) {
                if (areLinked(a, n) && cost[a][n] + length[n][target] == length[a][target]) return n;
            }
            return NONE;
        }

        private void orderTowards(int target) {
            int[] order = farFirst[target];
            for (int n = 0; n < ROUTERS; n++) {
                int place = n;
                while (place > 0 && length[order[place - 1]][target] < length[n][target]) {
                    order[place] = order[place - 1];
                    place--;
                }
                order[place] = n;
            }
        }
    }

    /** The hosts' memberships, the marks that their reports leave, and the losses of each LAN. */
    private static final class Lans {
        private static final int REPORT_LASTS = 12;
        private static final int LAST_LEAVE_LASTS = 2;

        private final Clock clock;
        private final int[][] members = new int[ROUTERS][GROUPS];
        private final int[][] until = new int[ROUTERS][GROUPS];
        private final int[][] reporter = new int[ROUTERS][GROUPS];
        private final int[] losses = new int[ROUTERS];

        Lans(Clock clock) {
            this.clock = clock;
            for (int l = 0; l < ROUTERS; l++) Arrays.fill(reporter[l], NONE);
        }

        boolean isMember(int l, int h, int g) {
            return holds(members[l][g], h);
        }

        boolean hasMembers(int l, int g) {
            return members[l][g] != 0;
        }

        boolean isMarked(int l, int g) {
            return clock.time() < until[l][g];
        }

        int ticksLeft(int l, int g) {
            return isMarked(l, g) ? until[l][g] - clock.time() : 0;
        }

        void admit(int l, int h, int g) {
            members[l][g] |= 1 << h;
            report(l, h, g);
        }

        void dismiss(int l, int h, int g, boolean tells) {
            members[l][g] &= ~(1 << h);
            if (!tells || reporter[l][g] != h) return;
            if (hasMembers(l, g)) {
                reportLowest(l, g);
            } else {
                reporter[l][g] = NONE;
                until[l][g] = Math.min(until[l][g], clock.time() + LAST_LEAVE_LASTS);
            }
        }

        void reportAll() {
            for (int l = 0; l < ROUTERS; l++) {
                for (int g = 0; g < GROUPS; g++) reportLowest(l, g);
            }
        }

        private void reportLowest(int l, int g) {
            for (int h = 0; h < HOSTS; h++) {
                if (isMember(l, h, g)) {
                    report(l, h, g);
                    return;
                }
            }
        }

        private void report(int l, int h, int g) {
            until[l][g] = clock.time() + REPORT_LASTS;
            reporter[l][g] = h;
        }

        void setLosses(int l, int c) {
            losses[l] = c;
        }

        /** Whether a packet that reached the LAN is heard there; one that is not uses up a loss. */
        boolean hearsOrLoses(int l) {
            if (losses[l] == 0) return true;
            losses[l]--;
            return false;
        }
    }

    /** What packets leave behind for each stream: keepalives, switches, and the time QUIET. */
    private static final class Streams {
        private static final int KEEPALIVE_LASTS = 8;
        private static final int STOP_LASTS = 6;
        private static final int MAX_OTHERS = 5;

        private final Clock clock;
        private final int[][] keepalive = new int[STREAMS][ROUTERS];
        private final int[] switched = new int[STREAMS];
        private final int[] quiet = new int[STREAMS];

        Streams(Clock clock) {
            this.clock = clock;
        }

        boolean isAlive(int stream, int n) {
            return clock.time() < keepalive[stream][n];
        }

        boolean isSwitched(int stream, int n) {
            return holds(switched[stream], n);
        }

        boolean isQuiet(int stream) {
            return quiet[stream] > clock.time();
        }

        void renew(int stream, int n) {
            keepalive[stream][n] = clock.time() + KEEPALIVE_LASTS;
        }

        void switchOver(int stream, int n) {
            renew(stream, n);
            switched[stream] |= 1 << n;
        }

        void silence(int stream) {
            quiet[stream] = clock.time() + STOP_LASTS;
        }

        /** A keepalive that is renewed later must not find the old switch again. */
        void endStale() {
            for (int stream = 0; stream < STREAMS; stream++) {
                for (int n = 0; n < ROUTERS; n++) {
                    if (!isAlive(stream, n)) switched[stream] &= ~(1 << n);
                }
            }
        }

        boolean hasRoomFor(int stream) {
            if (isAliveSomewhere(stream)) return true;
            int others = 0;
            for (int other = 0; other < STREAMS; other++) {
                if (isAliveSomewhere(other)) others++;
            }
            return others < MAX_OTHERS;
        }

        private boolean isAliveSomewhere(int stream) {
            for (int n = 0; n < ROUTERS; n++) {
                if (isAlive(stream, n)) return true;
            }
            return false;
        }
    }

    /** Joins, cuts and lists as they were settled last. */
    private static final class Trees {
        private final int meet;
        private final Net net;
        private final Lans lans;
        private final Streams streams;
        private final Tally tally;
        private final int[][] sharedAt = new int[GROUPS][ROUTERS];
        private final int[][] sharedFrom = new int[GROUPS][ROUTERS];
        private final int[][] cutAt = new int[STREAMS][ROUTERS];
        private final int[][] sourceAt = new int[STREAMS][ROUTERS];
        private final int[][] inner = new int[STREAMS][ROUTERS];
        private final int[][] outer = new int[STREAMS][ROUTERS];
        private final int[] sourceFrom = new int[ROUTERS];

        Trees(int meet, Net net, Lans lans, Streams streams, Tally tally) {
            this.meet = meet;
            this.net = net;
            this.lans = lans;
            this.streams = streams;
            this.tally = tally;
            for (int g = 0; g < GROUPS; g++) Arrays.fill(sharedAt[g], NONE);
            for (int stream = 0; stream < STREAMS; stream++) {
                Arrays.fill(cutAt[stream], NONE);
                Arrays.fill(sourceAt[stream], NONE);
            }
        }

        int meetingPoint() {
            return meet;
        }

        int sharedJoinOf(int g, int n) {
            return sharedAt[g][n];
        }

        int cutOf(int stream, int n) {
            return cutAt[stream][n];
        }

        int sourceJoinOf(int stream, int n) {
            return sourceAt[stream][n];
        }

        int innerList(int stream, int n) {
            return inner[stream][n];
        }

        int outerList(int stream, int n) {
            return outer[stream][n];
        }

        void settle() {
            for (int g = 0; g < GROUPS; g++) settleShared(g);
            for (int s = 0; s < ROUTERS; s++) {
                for (int g = 0; g < GROUPS; g++) {
                    settleCuts(s, g);
                    settleSources(s, g);
                }
            }
        }

        /** From the farthest on, so that all joins at a router are known before its own is settled. */
        private void settleShared(int g) {
            int[] from = sharedFrom[g];
            Arrays.fill(from, 0);
            for (int k = 0; k < ROUTERS; k++) {
                int n = net.fromFarthest(meet, k);
                boolean wanted = lans.isMarked(n, g) || from[n] != 0;
                int at = wanted ? net.nextTowards(n, meet) : NONE;
                if (at != NONE) from[at] |= 1 << n;
                announce(SHARED_JOINS, n, sharedAt[g][n], at);
                sharedAt[g][n] = at;
            }
        }

        private void settleCuts(int s, int g) {
            int stream = streamOf(s, g);
            int[] lists = inner[stream];
            int cutRouters = 0;
            for (int k = 0; k < ROUTERS; k++) {
                int n = net.fromFarthest(meet, k);
                // A cut is only ever where the shared join is, so that it needs no look at where.
                lists[n] = sharedFrom[g][n] & ~cutRouters;
                if (lans.isMarked(n, g)) lists[n] |= OWN_LAN;
                boolean wanted = lists[n] == 0 || takesElsewhere(stream, s, n);
                int at = wanted ? sharedAt[g][n] : NONE;
                if (at != NONE) cutRouters |= 1 << n;
                announce(CUTS, n, cutAt[stream][n], at);
                cutAt[stream][n] = at;
            }
        }

        private boolean takesElsewhere(int stream, int s, int n) {
            return streams.isSwitched(stream, n) && net.nextTowards(n, s) != net.nextTowards(n, meet);
        }

        private void settleSources(int s, int g) {
            int stream = streamOf(s, g);
            int[] lists = outer[stream];
            Arrays.fill(sourceFrom, 0);
            for (int k = 0; k < ROUTERS; k++) {
                int n = net.fromFarthest(s, k);
                lists[n] = inner[stream][n] | sourceFrom[n];
                boolean wanted = sourceFrom[n] != 0 || streams.isAlive(stream, n) && lists[n] != 0;
                int at = wanted ? net.nextTowards(n, s) : NONE;
                if (at != NONE) sourceFrom[at] |= 1 << n;
                announce(SOURCE_JOINS, n, sourceAt[stream][n], at);
                sourceAt[stream][n] = at;
            }
        }

        private void announce(int kind, int n, int before, int after) {
            if (before == after) return;
            if (before != NONE && net.areLinked(n, before)) tally.count(kind + 1);
            if (after != NONE) tally.count(kind);
        }
    }

    /** The way of one packet, and what is told of the latest one. */
    private static final class Packets {
        private final Net net;
        private final Lans lans;
        private final Streams streams;
        private final Trees trees;
        private final Tally tally;
        private final int[] carrier = new int[ROUTERS];
        private final int[] takenFrom = new int[ROUTERS];
        private int carriers = 0;
        private int crossed = 0;
        private int dropped = 0;
        private int reachedSet = 0;
        private int heardSet = 0;

        Packets(Net net, Lans lans, Streams streams, Trees trees, Tally tally) {
            this.net = net;
            this.lans = lans;
            this.streams = streams;
            this.trees = trees;
            this.tally = tally;
        }

        int crossingCount() {
            return crossed;
        }

        int dropCount() {
            return dropped;
        }

        int reachedLans() {
            return reachedSet;
        }

        int heardBy() {
            return heardSet;
        }

        void dispatch(int s, int g) {
            int stream = streamOf(s, g);
            carriers = 0;
            crossed = 0;
            dropped = 0;
            reachedSet = lans.isMarked(s, g) ? 1 << s : 0;
            switchJoined(stream, s);
            boolean registered = register(stream, s);
            if (trees.outerList(stream, s) != 0) carry(s, NONE);
            int r = trees.meetingPoint();
            if (registered && !streams.isSwitched(stream, r)) carry(r, NONE);
            // The carriers grow in this loop, as routers take what is put out to them.
            for (int k = 0; k < ROUTERS && k < carriers; k++) putOut(stream, s, k);
            renewCarriers(stream, g);
            listen();
        }

        private void switchJoined(int stream, int s) {
            streams.renew(stream, s);
            if (trees.outerList(stream, s) != 0) streams.switchOver(stream, s);
            for (int n = 0; n < ROUTERS; n++) {
                if (trees.sourceJoinOf(stream, n) != NONE) streams.switchOver(stream, n);
            }
        }

        private boolean register(int stream, int s) {
            int r = trees.meetingPoint();
            if (s == r || !net.areConnected(s, r) || streams.isQuiet(stream)) return false;
            tally.count(REGISTERS);
            streams.renew(stream, r);
            if (streams.isSwitched(stream, r) || trees.outerList(stream, r) == 0) {
                tally.count(STOPS);
                streams.silence(stream);
            }
            return true;
        }

        /** Each router takes from one router only, and where the packet starts from none, so none carries it twice. */
        private void carry(int n, int from) {
            if (carriers >= ROUTERS) return;
            carrier[carriers] = n;
            takenFrom[carriers] = from;
            carriers++;
        }

        private void putOut(int stream, int s, int k) {
            int m = carrier[k];
            int list = streams.isSwitched(stream, m) ? trees.outerList(stream, m) : trees.innerList(stream, m);
            if ((list & OWN_LAN) != 0 && m != s) reachedSet |= 1 << m;
            for (int n = 0; n < ROUTERS; n++) {
                if (holds(list, n) && n != takenFrom[k]) cross(stream, s, m, n);
            }
        }

        private void cross(int stream, int s, int m, int n) {
            crossed++;
            int side = streams.isSwitched(stream, n) ? s : trees.meetingPoint();
            if (n != s && net.nextTowards(n, side) == m) {
                carry(n, m);
            } else {
                dropped++;
            }
        }

        private void renewCarriers(int stream, int g) {
            for (int k = 0; k < ROUTERS && k < carriers; k++) {
                int n = carrier[k];
                if (!streams.isSwitched(stream, n) && lans.isMarked(n, g)) streams.renew(stream, n);
            }
        }

        private void listen() {
            heardSet = 0;
            for (int l = 0; l < ROUTERS; l++) {
                if (holds(reachedSet, l) && lans.hearsOrLoses(l)) heardSet |= 1 << l;
            }
        }
    }

    /** Published files, which blocks of them each LAN has, and the rounds that ask for lost ones. */
    private static final class Files {
        private static final int WAITS = 8;

        private final Net net;
        private final Lans lans;
        private final Tally tally;
        private final int[] source = new int[MAX_FILES];
        private final int[] group = new int[MAX_FILES];
        private final int[] blocks = new int[MAX_FILES];
        private final int[] next = new int[MAX_FILES];
        private final int[] repairs = new int[MAX_FILES];
        private final int[][] got = new int[MAX_FILES][ROUTERS];
        private final int[][] horizon = new int[MAX_FILES][ROUTERS];
        private final int[] wait = new int[ROUTERS];
        private int count = 0;
        private int drawn = 1;

        Files(Net net, Lans lans, Tally tally) {
            this.net = net;
            this.lans = lans;
            this.tally = tally;
        }

        boolean exists(int f) {
            return f >= 0 && f < count;
        }

        boolean isFull() {
            return count >= MAX_FILES;
        }

        int create(int s, int g, int length) {
            source[count] = s;
            group[count] = g;
            blocks[count] = length;
            count++;
            return count - 1;
        }

        int sourceOf(int f) {
            return source[f];
        }

        int groupOf(int f) {
            return group[f];
        }

        int blocksAt(int f, int l) {
            return got[f][l];
        }

        /** The block that is to be sent now, or the length for the END. */
        int takeTurn(int f) {
            for (int b = 0; b < blocks[f]; b++) {
                if (holds(repairs[f], b)) {
                    repairs[f] &= ~(1 << b);
                    return b;
                }
            }
            if (next[f] == blocks[f]) return blocks[f];
            next[f]++;
            return next[f] - 1;
        }

        void deliver(int f, int block, int heardSet) {
            for (int l = 0; l < ROUTERS; l++) {
                if (holds(heardSet, l) && lans.hasMembers(l, group[f])) store(f, block, l);
            }
        }

        private void store(int f, int block, int l) {
            if (block < blocks[f]) got[f][l] |= 1 << block;
            horizon[f][l] = Math.max(horizon[f][l], Math.min(block + 1, blocks[f]));
        }

        int askAgain(int f) {
            drawWaits(f);
            int asked = 0;
            int sent = 0;
            for (int w = 0; w < WAITS; w++) {
                for (int l = 0; l < ROUTERS; l++) {
                    if (wait[l] != w) continue;
                    if ((missingAt(f, l) & ~asked) == 0) {
                        tally.count(SILENCES);
                    } else {
                        tally.count(REQUESTS);
                        sent++;
                        asked |= missingAt(f, l);
                    }
                }
            }
            repairs[f] |= asked;
            return sent;
        }

        private void drawWaits(int f) {
            for (int l = 0; l < ROUTERS; l++) wait[l] = takesPart(f, l) ? draw() : NONE;
        }

        private boolean takesPart(int f, int l) {
            return net.areConnected(l, source[f]) && lans.hasMembers(l, group[f]) && missingAt(f, l) != 0;
        }

        private int draw() {
            drawn = drawn * 1103515245 + 12345;
            return drawn >>> 16 & WAITS - 1;
        }

        private int missingAt(int f, int l) {
            return (1 << horizon[f][l]) - 1 & ~got[f][l];
        }
    }
}
