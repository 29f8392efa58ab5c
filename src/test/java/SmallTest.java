import java.util.ArrayList;
import java.util.List;

/**
 * Every small case there is, against the words of the document taken as they stand: all graphs of
 * five claims without a ring and each pair that is asked for then; all mixtures of two sources and
 * three claims; all opinions of four persons with few values, days and ranks.
 */
final class SmallTest {
    private static final int RING_CLAIMS = 5;
    private static final int HELD_CLAIMS = 3;
    private static final int PERSONS = 4;

    public static void main(String[] args) {
        everyRing();
        everyHeldClaim();
        everyAgreement();
        Due.end();
    }

    private static void everyRing() {
        for (boolean[][] graph : graphsWithoutRing(RING_CLAIMS)) {
            new Rings(graph).askAll();
        }
    }

    /** One graph; a pair that closes no ring is lifted again before the next one is asked for. */
    private static final class Rings {
        private final ClaimSources x = new ClaimSources();
        private final boolean[][] graph;
        private final String told;
        private List<Integer> latest = List.of();

        Rings(boolean[][] graph) {
            this.graph = graph;
            told = tell(graph);
            build(x, graph);
        }

        void askAll() {
            for (int claim = 0; claim < RING_CLAIMS; claim++) {
                for (int other = 0; other < RING_CLAIMS; other++) {
                    ask(claim, other);
                }
            }
        }

        private void ask(int claim, int other) {
            List<Integer> ring = firstRing(graph, claim, other);
            int want = graph[claim][other] ? 0 : ring == null ? 1 : -1;
            String what = told + "restsOn(" + claim + ", " + other + ")";
            Due.due(what, x.restsOn(claim, other), want);
            latest = ring == null ? latest : ring;
            for (int k = 0; k <= RING_CLAIMS; k++) {
                Due.due(what, x.ring(k), k < latest.size() ? latest.get(k) : -1);
            }
            Due.due(what, x.count(4), pairs(graph) + (want == 1 ? 1 : 0));
            if (want == 1) {
                Due.due(what, x.lift(claim, other), true);
            }
        }
    }

    /** All rings that the new pair would close; of these the shortest, and of such the lowest. */
    private static List<Integer> firstRing(boolean[][] graph, int claim, int other) {
        List<List<Integer>> rings = new ArrayList<>();
        collectRings(graph, claim, other, new ArrayList<>(List.of(claim)), rings);
        List<Integer> first = null;
        for (List<Integer> ring : rings) {
            if (first == null || isBefore(ring, first)) {
                first = ring;
            }
        }
        return first;
    }

    private static void collectRings(boolean[][] graph, int claim, int next, List<Integer> path,
            List<List<Integer>> rings) {
        if (next == claim) {
            rings.add(new ArrayList<>(path));
            return;
        }
        path.add(next);
        for (int below = 0; below < graph.length; below++) {
            if (graph[next][below]) {
                collectRings(graph, claim, below, path, rings);
            }
        }
        path.remove(path.size() - 1);
    }

    private static boolean isBefore(List<Integer> ring, List<Integer> former) {
        if (ring.size() != former.size()) {
            return ring.size() < former.size();
        }
        for (int k = 0; k < ring.size(); k++) {
            if (!ring.get(k).equals(former.get(k))) {
                return ring.get(k) < former.get(k);
            }
        }
        return false;
    }

    private static void everyHeldClaim() {
        int[] withdrawals = {-1, 1, 2};
        for (boolean[][] graph : graphsWithoutRing(HELD_CLAIMS)) {
            for (int sets = 0; sets < 64; sets++) {
                for (int days = 0; days < 9; days++) {
                    for (int from = 0; from < 9; from++) {
                        new Held(graph, sets, new int[] {days % 3, days / 3},
                                new int[] {withdrawals[from % 3], withdrawals[from / 3]}).ask();
                    }
                }
            }
        }
    }

    /** Two sources and three claims; bits 2c and 2c + 1 of the sets are the sources of claim c. */
    private record Held(boolean[][] graph, int sets, int[] days, int[] withdrawn) {
        void ask() {
            ClaimSources x = new ClaimSources();
            build(x, graph);
            for (int source = 0; source < 2; source++) {
                x.source(0, days[source]);
                x.withdraw(source, withdrawn[source]);
                for (int claim = 0; claim < HELD_CLAIMS; claim++) {
                    x.rests(claim, source, rests(claim, source));
                }
            }
            for (int day = 0; day <= 2; day++) {
                for (int claim = 0; claim < HELD_CLAIMS; claim++) {
                    Due.due("held", x.held(claim, day), isHeld(claim, day, -1));
                }
                askOpened(x, 0, day);
                askOpened(x, 1, day);
            }
        }

        private void askOpened(ClaimSources x, int source, int day) {
            int k = 0;
            for (int claim = 0; claim < HELD_CLAIMS; claim++) {
                if (isHeld(claim, day, -1) && !isHeld(claim, day, source)) {
                    Due.due("opened", x.opened(source, day, k), claim);
                    k++;
                }
            }
            Due.due("opened behind the last", x.opened(source, day, k), -1);
        }

        private boolean rests(int claim, int source) {
            return (sets >> (2 * claim + source)) % 2 == 1;
        }

        private boolean isHeld(int claim, int day, int without) {
            for (int source = 0; source < 2; source++) {
                boolean isWithdrawn = source == without
                        || withdrawn[source] >= 0 && withdrawn[source] <= day;
                if (rests(claim, source) && days[source] <= day && !isWithdrawn) {
                    return true;
                }
            }
            for (int other = 0; other < HELD_CLAIMS; other++) {
                if (graph[claim][other] && isHeld(other, day, without)) {
                    return true;
                }
            }
            return false;
        }
    }

    /** Each person says nothing, or one of three values on one of two days with one of two ranks. */
    private static void everyAgreement() {
        for (int all = 0; all < 13 * 13 * 13 * 13; all++) {
            ClaimSources x = new ClaimSources();
            Model model = new Model();
            x.rests(x.claim(), x.source(0, 0), true);
            model.rests(model.claim(), model.source(0, 0), true);
            int rest = all;
            for (int person = 0; person < PERSONS; person++) {
                int said = rest % 13 - 1;
                rest /= 13;
                if (said >= 0) {
                    x.opinion(person, 0, said % 3, said / 3 % 2, said / 6);
                    model.opinion(person, 0, said % 3, said / 3 % 2, said / 6);
                }
            }
            for (int rule = 0; rule <= 2; rule++) {
                x.rule(0, rule);
                model.rule(0, rule);
                askAgreed(x, model, "opinions " + all + ", rule " + rule + ": ");
            }
        }
    }

    private static void askAgreed(ClaimSources x, Model model, String what) {
        for (int day = 0; day <= 1; day++) {
            Due.due(what + "agreed", x.agreed(0, day), model.agreed(0, day));
            for (int k = 0; k <= PERSONS; k++) {
                Due.due(what + "dissent", x.dissent(0, day, k), model.dissent(0, day, k));
            }
        }
    }

    private static List<boolean[][]> graphsWithoutRing(int claims) {
        List<boolean[][]> graphs = new ArrayList<>();
        int pairs = claims * (claims - 1);
        for (int bits = 0; bits < 1 << pairs; bits++) {
            boolean[][] graph = new boolean[claims][claims];
            for (int pair = 0; pair < pairs; pair++) {
                int claim = pair / (claims - 1);
                int other = pair % (claims - 1);
                graph[claim][other < claim ? other : other + 1] = (bits >> pair) % 2 == 1;
            }
            if (!hasRing(graph)) {
                graphs.add(graph);
            }
        }
        return graphs;
    }

    /** Takes away claims that rest on none of those left; where there is a ring, some stay. */
    private static boolean hasRing(boolean[][] graph) {
        boolean[] gone = new boolean[graph.length];
        int left = graph.length;
        for (int round = 0; round < graph.length; round++) {
            for (int claim = 0; claim < graph.length; claim++) {
                boolean free = !gone[claim];
                for (int other = 0; other < graph.length; other++) {
                    free &= !graph[claim][other] || gone[other];
                }
                if (free) {
                    gone[claim] = true;
                    left--;
                }
            }
        }
        return left > 0;
    }

    private static void build(ClaimSources x, boolean[][] graph) {
        for (int claim = 0; claim < graph.length; claim++) {
            x.claim();
        }
        for (int claim = 0; claim < graph.length; claim++) {
            for (int other = 0; other < graph.length; other++) {
                if (graph[claim][other]) {
                    Due.due("a pair that closes no ring", x.restsOn(claim, other), 1);
                }
            }
        }
    }

    private static int pairs(boolean[][] graph) {
        int pairs = 0;
        for (boolean[] row : graph) {
            for (boolean rests : row) {
                pairs += rests ? 1 : 0;
            }
        }
        return pairs;
    }

    private static String tell(boolean[][] graph) {
        StringBuilder text = new StringBuilder();
        for (int claim = 0; claim < graph.length; claim++) {
            for (int other = 0; other < graph.length; other++) {
                text.append(graph[claim][other] ? claim + ">" + other + " " : "");
            }
        }
        return text.toString();
    }
}
