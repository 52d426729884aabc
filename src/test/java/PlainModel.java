import java.util.ArrayList;
import java.util.Arrays;
import java.util.List;
import java.util.TreeSet;

/**
 * The document's words, followed as plainly as can be: paths are tried one by one, and joins and cuts are guessed
 * again and again until they hold. It shares nothing with the program.
 */
final class PlainModel {
    private static final int NONE = -1;
    private static final int LAN = 10;

    private final int meet;
    private int clock = 0;
    private final int[][] cost = new int[6][6];
    private final boolean[][][] member = new boolean[6][4][3];
    private final int[][] until = new int[6][3];
    private final int[][] reporter = new int[6][3];
    private int[][] sharedAt = new int[6][3];
    private int[][][] sourceAt = new int[6][6][3];
    private int[][][] cutAt = new int[6][6][3];
    private final int[][][] keepalive = new int[6][6][3];
    private final boolean[][][] switched = new boolean[6][6][3];
    private final int[][] quiet = new int[6][3];
    private final int[] messages = new int[10];
    private final int[] losses = new int[6];
    private int crossings = 0;
    private int drops = 0;
    private TreeSet<Integer> reached = new TreeSet<>();
    private TreeSet<Integer> heard = new TreeSet<>();
    private final List<Doc> files = new ArrayList<>();
    private int x = 1;

    private static final class Doc {
        int s;
        int g;
        int length;
        int next = 0;
        final TreeSet<Integer> repairs = new TreeSet<>();
        final List<TreeSet<Integer>> got = new ArrayList<>();
        final int[] horizon = new int[6];
    }

    PlainModel(int meet) {
        this.meet = meet >= 0 && meet <= 5 ? meet : 0;
        for (int[] row : reporter) Arrays.fill(row, NONE);
        for (int[] row : sharedAt) Arrays.fill(row, NONE);
        for (int[][] rows : sourceAt) for (int[] row : rows) Arrays.fill(row, NONE);
        for (int[][] rows : cutAt) for (int[] row : rows) Arrays.fill(row, NONE);
    }

    private static boolean in(int v, int low, int high) {
        return low <= v && v <= high;
    }

    // ---- the net

    boolean link(int a, int b, int c) {
        if (!in(a, 0, 5) || !in(b, 0, 5) || a == b || !in(c, 0, 9) || cost[a][b] == c) return false;
        cost[a][b] = c;
        cost[b][a] = c;
        settle();
        return true;
    }

    int distance(int a, int b) {
        if (!in(a, 0, 5) || !in(b, 0, 5)) return -1;
        return walk(a, b, new boolean[6]);
    }

    private int walk(int a, int b, boolean[] been) {
        if (a == b) return 0;
        int best = -1;
        been[a] = true;
        for (int n = 0; n < 6; n++) {
            if (cost[a][n] == 0 || been[n]) continue;
            int rest = walk(n, b, been);
            if (rest >= 0 && (best < 0 || rest + cost[a][n] < best)) best = rest + cost[a][n];
        }
        been[a] = false;
        return best;
    }

    int hop(int a, int b) {
        if (!in(a, 0, 5) || !in(b, 0, 5) || a == b || distance(a, b) < 0) return NONE;
        for (int n = 0; n < 6; n++) {
            if (cost[a][n] > 0 && distance(n, b) >= 0 && cost[a][n] + distance(n, b) == distance(a, b)) return n;
        }
        throw new IllegalStateException("no hop");
    }

    // ---- members

    private void reports(int l, int h, int g) {
        until[l][g] = clock + 12;
        reporter[l][g] = h;
    }

    private int lowestMember(int l, int g) {
        for (int h = 0; h < 4; h++) if (member[l][h][g]) return h;
        return NONE;
    }

    private boolean isMarked(int l, int g) {
        return clock < until[l][g];
    }

    boolean join(int l, int h, int g) {
        if (!in(l, 0, 5) || !in(h, 0, 3) || !in(g, 0, 2) || member[l][h][g]) return false;
        member[l][h][g] = true;
        reports(l, h, g);
        settle();
        return true;
    }

    boolean leave(int l, int h, int g, boolean tells) {
        if (!in(l, 0, 5) || !in(h, 0, 3) || !in(g, 0, 2) || !member[l][h][g]) return false;
        member[l][h][g] = false;
        if (reporter[l][g] == h && tells) {
            if (lowestMember(l, g) != NONE) {
                reports(l, lowestMember(l, g), g);
            } else {
                reporter[l][g] = NONE;
                if (until[l][g] > clock + 2) until[l][g] = clock + 2;
            }
        }
        settle();
        return true;
    }

    int marked(int l, int g) {
        if (!in(l, 0, 5) || !in(g, 0, 2)) return -1;
        return isMarked(l, g) ? until[l][g] - clock : 0;
    }

    boolean pass(int n) {
        if (!in(n, 1, 10)) return false;
        for (int k = 0; k < n; k++) {
            clock++;
            for (int r = 0; r < 6; r++) for (int s = 0; s < 6; s++) for (int g = 0; g < 3; g++) {
                if (!runs(r, s, g)) switched[r][s][g] = false;
            }
            if (clock % 5 == 0) {
                for (int l = 0; l < 6; l++) for (int g = 0; g < 3; g++) {
                    if (lowestMember(l, g) != NONE) reports(l, lowestMember(l, g), g);
                }
            }
            settle();
        }
        return true;
    }

    // ---- joins and cuts; a list holds routers by their numbers, and LAN

    private TreeSet<Integer> inner(int n, int s, int g) {
        TreeSet<Integer> list = new TreeSet<>();
        if (isMarked(n, g)) list.add(LAN);
        for (int m = 0; m < 6; m++) if (sharedAt[m][g] == n && cutAt[m][s][g] != n) list.add(m);
        return list;
    }

    private TreeSet<Integer> outer(int n, int s, int g) {
        TreeSet<Integer> list = inner(n, s, g);
        for (int m = 0; m < 6; m++) if (sourceAt[m][s][g] == n) list.add(m);
        return list;
    }

    private int dueShared(int n, int g, int[][] hops) {
        boolean wanted = isMarked(n, g);
        for (int m = 0; m < 6; m++) if (sharedAt[m][g] == n) wanted = true;
        return wanted ? hops[n][meet] : NONE;
    }

    private int dueCut(int n, int s, int g, int[][] hops) {
        if (hops[n][meet] == NONE || sharedAt[n][g] != hops[n][meet]) return NONE;
        boolean wanted = inner(n, s, g).isEmpty() || switched[n][s][g] && hops[n][s] != hops[n][meet];
        return wanted ? hops[n][meet] : NONE;
    }

    private int dueSource(int n, int s, int g, int[][] hops) {
        boolean wanted = runs(n, s, g) && !outer(n, s, g).isEmpty();
        for (int m = 0; m < 6; m++) if (sourceAt[m][s][g] == n) wanted = true;
        return wanted ? hops[n][s] : NONE;
    }

    private void settle() {
        int[][] hops = new int[6][6];
        for (int a = 0; a < 6; a++) for (int b = 0; b < 6; b++) hops[a][b] = hop(a, b);
        int[][] oldShared = new int[6][3];
        int[][][] oldSource = new int[6][6][3];
        int[][][] oldCut = new int[6][6][3];
        for (int n = 0; n < 6; n++) for (int g = 0; g < 3; g++) {
            oldShared[n][g] = sharedAt[n][g];
            for (int s = 0; s < 6; s++) {
                oldSource[n][s][g] = sourceAt[n][s][g];
                oldCut[n][s][g] = cutAt[n][s][g];
            }
        }
        int rounds = 0;
        while (adjust(hops)) {
            rounds++;
            if (rounds > 1000) throw new IllegalStateException("never settled");
        }
        for (int n = 0; n < 6; n++) for (int g = 0; g < 3; g++) {
            tell(0, n, oldShared[n][g], sharedAt[n][g]);
            for (int s = 0; s < 6; s++) {
                tell(2, n, oldSource[n][s][g], sourceAt[n][s][g]);
                tell(4, n, oldCut[n][s][g], cutAt[n][s][g]);
            }
        }
    }

    private boolean adjust(int[][] hops) {
        boolean changed = false;
        for (int n = 0; n < 6; n++) for (int g = 0; g < 3; g++) {
            int shared = dueShared(n, g, hops);
            changed |= shared != sharedAt[n][g];
            sharedAt[n][g] = shared;
            for (int s = 0; s < 6; s++) {
                int cut = dueCut(n, s, g, hops);
                changed |= cut != cutAt[n][s][g];
                cutAt[n][s][g] = cut;
                int source = dueSource(n, s, g, hops);
                changed |= source != sourceAt[n][s][g];
                sourceAt[n][s][g] = source;
            }
        }
        return changed;
    }

    private void tell(int kind, int n, int before, int after) {
        if (before == after) return;
        if (before != NONE && cost[n][before] != 0) messages[kind + 1]++;
        if (after != NONE) messages[kind]++;
    }

    // ---- packets

    private boolean runs(int n, int s, int g) {
        return clock < keepalive[n][s][g];
    }

    private boolean runsAnywhere(int s, int g) {
        for (int n = 0; n < 6; n++) if (runs(n, s, g)) return true;
        return false;
    }

    int send(int s, int g) {
        if (!in(s, 0, 5) || !in(g, 0, 2)) return -1;
        int others = 0;
        for (int t = 0; t < 6; t++) for (int k = 0; k < 3; k++) {
            if ((t != s || k != g) && runsAnywhere(t, k)) others++;
        }
        if (!runsAnywhere(s, g) && others >= 5) return -1;
        packet(s, g);
        heard = new TreeSet<>();
        for (int l : reached) {
            if (losses[l] == 0) heard.add(l);
            else losses[l]--;
        }
        settle();
        return heard.size();
    }

    private void packet(int s, int g) {
        crossings = 0;
        drops = 0;
        reached = new TreeSet<>();
        keepalive[s][s][g] = clock + 8;
        for (int n = 0; n < 6; n++) {
            if (sourceAt[n][s][g] != NONE || n == s && !outer(s, s, g).isEmpty()) {
                switched[n][s][g] = true;
                keepalive[n][s][g] = clock + 8;
            }
        }
        boolean registered = s != meet && distance(s, meet) >= 0 && quiet[s][g] <= clock;
        if (registered) {
            messages[6]++;
            keepalive[meet][s][g] = clock + 8;
            if (switched[meet][s][g] || outer(meet, s, g).isEmpty()) {
                messages[7]++;
                quiet[s][g] = clock + 6;
            }
        }
        List<Integer> carried = new ArrayList<>();
        if (!outer(s, s, g).isEmpty()) carry(s, NONE, s, g, carried);
        if (registered && !switched[meet][s][g]) carry(meet, NONE, s, g, carried);
        if (isMarked(s, g)) reached.add(s);
        for (int n : carried) {
            if (!switched[n][s][g] && isMarked(n, g)) keepalive[n][s][g] = clock + 8;
        }
    }

    private void carry(int n, int from, int s, int g, List<Integer> carried) {
        if (carried.contains(n)) throw new IllegalStateException("carried twice");
        carried.add(n);
        for (int to : switched[n][s][g] ? outer(n, s, g) : inner(n, s, g)) {
            if (to == LAN) {
                if (n != s) reached.add(n);
            } else if (to != from) {
                crossings++;
                boolean takes = to != s && (switched[to][s][g] ? n == hop(to, s) : n == hop(to, meet));
                if (takes) carry(to, n, s, g, carried);
                else drops++;
            }
        }
    }

    private static int sum(TreeSet<Integer> set) {
        int sum = 0;
        for (int v : set) sum += 1 << v;
        return sum;
    }

    int crossings() {
        return crossings;
    }

    int drops() {
        return drops;
    }

    int reached() {
        return sum(reached);
    }

    int heard() {
        return sum(heard);
    }

    int shared(int n, int g) {
        return in(n, 0, 5) && in(g, 0, 2) ? sharedAt[n][g] : -1;
    }

    int entry(int n, int s, int g) {
        if (!in(n, 0, 5) || !in(s, 0, 5) || !in(g, 0, 2)) return -1;
        return (runs(n, s, g) ? 1 : 0) + (switched[n][s][g] ? 2 : 0) + (cutAt[n][s][g] != NONE ? 4 : 0)
            + (sourceAt[n][s][g] != NONE ? 8 : 0) + 16 * outer(n, s, g).size();
    }

    int messages(int kind) {
        return in(kind, 0, 9) ? messages[kind] : -1;
    }

    boolean lose(int l, int c) {
        if (!in(l, 0, 5) || !in(c, 0, 9)) return false;
        losses[l] = c;
        return true;
    }

    // ---- files

    int publish(int s, int g, int blocks) {
        if (!in(s, 0, 5) || !in(g, 0, 2) || !in(blocks, 1, 16) || files.size() == 4) return -1;
        Doc file = new Doc();
        file.s = s;
        file.g = g;
        file.length = blocks;
        for (int l = 0; l < 6; l++) file.got.add(new TreeSet<>());
        files.add(file);
        return files.size() - 1;
    }

    int emit(int f) {
        if (!in(f, 0, files.size() - 1)) return -1;
        Doc file = files.get(f);
        if (send(file.s, file.g) == -1) return -1;
        int answer;
        if (!file.repairs.isEmpty()) answer = file.repairs.pollFirst();
        else if (file.next < file.length) answer = file.next++;
        else answer = file.length;
        for (int l : heard) {
            if (lowestMember(l, file.g) == NONE) continue;
            if (answer == file.length) {
                file.horizon[l] = file.length;
            } else {
                file.got.get(l).add(answer);
                if (file.horizon[l] < answer + 1) file.horizon[l] = answer + 1;
            }
        }
        return answer;
    }

    private static TreeSet<Integer> missing(Doc file, int l) {
        TreeSet<Integer> set = new TreeSet<>();
        for (int b = 0; b < file.horizon[l]; b++) if (!file.got.get(l).contains(b)) set.add(b);
        return set;
    }

    int requests(int f) {
        if (!in(f, 0, files.size() - 1)) return -1;
        Doc file = files.get(f);
        List<int[]> waits = new ArrayList<>();
        for (int l = 0; l < 6; l++) {
            if (distance(l, file.s) < 0 || lowestMember(l, file.g) == NONE || missing(file, l).isEmpty()) continue;
            x = x * 1103515245 + 12345;
            waits.add(new int[] {x >>> 16 & 7, l});
        }
        waits.sort((p, q) -> p[0] != q[0] ? p[0] - q[0] : p[1] - q[1]);
        TreeSet<Integer> asked = new TreeSet<>();
        int sent = 0;
        for (int[] wait : waits) {
            if (asked.containsAll(missing(file, wait[1]))) {
                messages[9]++;
            } else {
                messages[8]++;
                sent++;
                asked.addAll(missing(file, wait[1]));
            }
        }
        file.repairs.addAll(asked);
        return sent;
    }

    int have(int f, int l) {
        return in(f, 0, files.size() - 1) && in(l, 0, 5) ? sum(files.get(f).got.get(l)) : -1;
    }
}
