import java.util.ArrayList;
import java.util.Comparator;
import java.util.List;
import java.util.regex.Matcher;
import java.util.regex.Pattern;
import java.util.stream.IntStream;

/**
 * The document told once more, in the most literal way and in no hurry: every
 * question is answered by brute force from plain lists, nothing is kept but the
 * state. The random runs compare LoadWeights with it, call by call.
 */
final class Oracle {
    static final int BAD = -1, NO = -2, FULL = -3, NONE = -4;
    private static final int FAR_OFF = 1_000_000;
    private static final Pattern ITEM = Pattern.compile("([nld])(\\d{1,2}(?:,\\d{1,2})*)");

    record Link(int from, int to, int room, int weight) { }

    record Demand(int from, int to, int size) { }

    record Net(int nodes, List<Link> links, List<Demand> demands, int fault) { }

    record State(List<Integer> weights, List<Boolean> ups, List<Integer> tabu, int least) { }

    record Found(int link, int weight, int cost) { }

    record Flow(int[][] share, boolean[] lost, int[][] far, int[] load, int[] linkCost, int cost) { }

    private String text = "";
    private Net net;
    private State now;
    private final List<State> past = new ArrayList<>();

    Oracle() {
        lay("n5;l0,1,10,2;l1,4,8,2;l0,2,9,1;l2,4,6,3;l0,3,20,4;l3,4,20,4;l2,1,5,1;d0,4,12;d2,4,5;");
    }

    // ---- reading

    private static Net read(String text) {
        int nodes = 4;
        List<Link> links = new ArrayList<>();
        List<Demand> demands = new ArrayList<>();
        int start = 0;
        while (start < text.length()) {
            int end = text.indexOf(';', start);
            Matcher item = ITEM.matcher(end < 0 ? "" : text.substring(start, end));
            boolean good = false;
            if (item.matches()) {
                int[] p = List.of(item.group(2).split(",")).stream().mapToInt(Integer::parseInt).toArray();
                boolean twoNodes = p.length >= 3 && p[0] < nodes && p[1] < nodes && p[0] != p[1] && p[2] >= 1;
                switch (item.group(1)) {
                    case "n" -> {
                        good = p.length == 1 && p[0] >= 2 && p[0] <= 7 && links.isEmpty() && demands.isEmpty();
                        nodes = good ? p[0] : nodes;
                    }
                    case "l" -> {
                        good = p.length == 4 && twoNodes && p[3] >= 1 && p[3] <= 20 && links.size() < 12;
                        if (good) {
                            links.add(new Link(p[0], p[1], p[2], p[3]));
                        }
                    }
                    default -> {
                        good = p.length == 3 && twoNodes && demands.size() < 6;
                        if (good) {
                            demands.add(new Demand(p[0], p[1], p[2]));
                        }
                    }
                }
            }
            if (!good) {
                return new Net(nodes, links, demands, start);
            }
            start = end + 1;
        }
        return new Net(nodes, links, demands, NONE);
    }

    private int lay(String told) {
        Net read = read(told);
        if (read.fault != NONE || read.links.isEmpty() || read.demands.isEmpty()) {
            return NO;
        }
        net = read;
        List<Integer> weights = net.links.stream().map(Link::weight).toList();
        List<Boolean> ups = net.links.stream().map(l -> true).toList();
        now = new State(weights, ups, List.of(), flow(weights, ups).cost);
        past.clear();
        return net.links.size();
    }

    // ---- where the load goes

    private int[][] distances(List<Integer> weights, List<Boolean> ups) {
        int n = net.nodes;
        int[][] way = new int[n][n];
        for (int a = 0; a < n; a++) {
            for (int b = 0; b < n; b++) {
                way[a][b] = a == b ? 0 : FAR_OFF;
            }
        }
        for (int l = 0; l < net.links.size(); l++) {
            Link k = net.links.get(l);
            if (ups.get(l)) {
                way[k.from][k.to] = Math.min(way[k.from][k.to], weights.get(l));
            }
        }
        for (int m = 0; m < n; m++) {
            for (int a = 0; a < n; a++) {
                for (int b = 0; b < n; b++) {
                    way[a][b] = Math.min(way[a][b], way[a][m] + way[m][b]);
                }
            }
        }
        return way;
    }

    private boolean isShort(int l, int t, List<Integer> weights, List<Boolean> ups, int[][] far) {
        Link k = net.links.get(l);
        return ups.get(l) && far[k.to][t] < FAR_OFF && far[k.from][t] == weights.get(l) + far[k.to][t];
    }

    private Flow flow(List<Integer> weights, List<Boolean> ups) {
        int[][] far = distances(weights, ups);
        int links = net.links.size();
        int[][] share = new int[net.demands.size()][links];
        boolean[] lost = new boolean[net.demands.size()];
        int[] load = new int[links];
        int[] linkCost = new int[links];
        int cost = 0;
        for (int d = 0; d < net.demands.size(); d++) {
            Demand demand = net.demands.get(d);
            lost[d] = far[demand.from][demand.to] >= FAR_OFF;
            if (lost[d]) {
                cost += 12000 * demand.size;
            } else {
                share[d] = sharesOf(demand, weights, ups, far);
            }
            for (int l = 0; l < links; l++) {
                load[l] += share[d][l];
            }
        }
        for (int l = 0; l < links; l++) {
            linkCost[l] = twelfthByTwelfth(load[l], net.links.get(l).room);
            cost += linkCost[l];
        }
        return new Flow(share, lost, far, load, linkCost, cost);
    }

    private int[] sharesOf(Demand demand, List<Integer> weights, List<Boolean> ups, int[][] far) {
        int[] share = new int[net.links.size()];
        int[] there = new int[net.nodes];
        there[demand.from] = 12 * demand.size;
        List<Integer> order = IntStream.range(0, net.nodes).boxed()
            .sorted(Comparator.<Integer>comparingInt(x -> -far[x][demand.to]).thenComparingInt(x -> x)).toList();
        for (int x : order) {
            List<Integer> ways = IntStream.range(0, net.links.size()).boxed()
                .filter(l -> net.links.get(l).from == x && isShort(l, demand.to, weights, ups, far)).toList();
            // One TWELFTH after the other, round and round: even, the first ones getting what is left.
            for (int i = 0; i < there[x] && !ways.isEmpty(); i++) {
                int l = ways.get(i % ways.size());
                share[l]++;
                there[net.links.get(l).to]++;
            }
        }
        return share;
    }

    private static int twelfthByTwelfth(int load, int room) {
        int cost = 0;
        for (int i = 0; i < load; i++) {
            cost += i < 4 * room ? 1 : i < 8 * room ? 3 : i < 11 * room ? 10 : i < 12 * room ? 70 : 500;
        }
        return cost;
    }

    // ---- moves

    private static <T> List<T> with(List<T> list, int at, T value) {
        List<T> copy = new ArrayList<>(list);
        copy.set(at, value);
        return copy;
    }

    private static int mark(List<Integer> weights) {
        int mark = 7;
        for (int w : weights) {
            mark = (31 * mark + w) % 997;
        }
        return mark;
    }

    private Found leastMove(List<Integer> weights, List<Boolean> ups, int not, boolean tabuCounts) {
        Found found = null;
        for (int l = 0; l < net.links.size(); l++) {
            for (int w = 1; w <= 20; w++) {
                if (l == not || w == weights.get(l)) {
                    continue;
                }
                List<Integer> then = with(weights, l, w);
                int cost = flow(then, ups).cost;
                boolean allowed = !tabuCounts || !now.tabu.contains(mark(then)) || cost < now.least;
                if (allowed && (found == null || cost < found.cost)) {
                    found = new Found(l, w, cost);
                }
            }
        }
        return found;
    }

    private void change(State then) {
        past.add(now);
        if (past.size() > 6) {
            past.remove(0);
        }
        now = then;
    }

    private void changeWeights(List<Integer> weights) {
        int cost = flow(weights, now.ups).cost;
        change(new State(weights, now.ups, now.tabu, Math.min(now.least, cost)));
    }

    private boolean noNode(int x) {
        return x < 0 || x >= net.nodes;
    }

    private boolean noLink(int l) {
        return l < 0 || l >= net.links.size();
    }

    // ---- the calls

    int write(int letter) {
        if (letter < 32 || letter > 126) {
            return BAD;
        }
        if (text.length() == 200) {
            return FULL;
        }
        text += (char) letter;
        return text.length();
    }

    int wipe() {
        int was = text.length();
        text = "";
        return was;
    }

    int fault() {
        return read(text).fault;
    }

    int lay() {
        return lay(text);
    }

    int move(int l, int w) {
        if (noLink(l) || w < 1 || w > 20) {
            return BAD;
        }
        int was = now.weights.get(l);
        if (was == w) {
            return NO;
        }
        changeWeights(with(now.weights, l, w));
        return was;
    }

    int even(int x, int t) {
        if (noNode(x) || noNode(t)) {
            return BAD;
        }
        int[][] far = distances(now.weights, now.ups);
        List<Integer> ways = IntStream.range(0, net.links.size()).boxed()
            .filter(l -> net.links.get(l).from == x && now.ups.get(l) && far[net.links.get(l).to][t] < FAR_OFF)
            .toList();
        if (x == t || ways.size() < 2) {
            return NO;
        }
        int greatest = ways.stream().mapToInt(l -> far[net.links.get(l).to][t]).max().orElseThrow();
        List<Integer> weights = new ArrayList<>(now.weights);
        for (int l : ways) {
            weights.set(l, greatest + 1 - far[net.links.get(l).to][t]);
        }
        int others = (int) ways.stream().filter(l -> !weights.get(l).equals(now.weights.get(l))).count();
        if (others == 0 || ways.stream().anyMatch(l -> weights.get(l) > 20)) {
            return NO;
        }
        changeWeights(weights);
        return others;
    }

    int step(int n) {
        if (n < 1 || n > 3) {
            return BAD;
        }
        State ahead = now;
        int cost = NO;
        for (int i = 0; i < n; i++) {
            Found found = leastMove(now.weights, now.ups, -1, true);
            if (found == null) {
                break;
            }
            List<Integer> tabu = new ArrayList<>(now.tabu);
            tabu.add(mark(now.weights));
            if (tabu.size() > 6) {
                tabu.remove(0);
            }
            cost = found.cost;
            List<Integer> weights = with(now.weights, found.link, found.weight);
            now = new State(weights, now.ups, tabu, Math.min(now.least, cost));
        }
        if (cost != NO) {
            State then = now;
            now = ahead;
            change(then);
        }
        return cost;
    }

    int turn(int l, int is) {
        if (noLink(l) || is < 0 || is > 1) {
            return BAD;
        }
        if (now.ups.get(l) == (is == 1)) {
            return NO;
        }
        change(new State(now.weights, with(now.ups, l, is == 1), now.tabu, now.least));
        return cost();
    }

    int undo() {
        if (past.isEmpty()) {
            return NO;
        }
        now = past.remove(past.size() - 1);
        return past.size();
    }

    int link(int l, int what) {
        if (noLink(l) || what < 0 || what > 7) {
            return BAD;
        }
        Link k = net.links.get(l);
        Flow f = flow(now.weights, now.ups);
        int shortFor = (int) IntStream.range(0, net.demands.size())
            .filter(d -> !f.lost[d] && isShort(l, net.demands.get(d).to, now.weights, now.ups, f.far)).count();
        return new int[] {k.from, k.to, k.room, now.weights.get(l), now.ups.get(l) ? 1 : 0,
            f.load[l], f.linkCost[l], shortFor}[what];
    }

    int far(int x, int t) {
        if (noNode(x) || noNode(t)) {
            return BAD;
        }
        int way = distances(now.weights, now.ups)[x][t];
        return way < FAR_OFF ? way : NONE;
    }

    int share(int d, int l) {
        if (d < 0 || d >= net.demands.size() || noLink(l)) {
            return BAD;
        }
        return flow(now.weights, now.ups).share[d][l];
    }

    int cost() {
        return flow(now.weights, now.ups).cost;
    }

    int tabu(int l, int w) {
        if (noLink(l) || w < 1 || w > 20) {
            return BAD;
        }
        return now.tabu.contains(mark(with(now.weights, l, w))) ? 1 : 0;
    }

    private static int told(Found found, int what) {
        return new int[] {found.link, found.weight, found.cost}[what];
    }

    int best(int what) {
        return what < 0 || what > 2 ? BAD : told(leastMove(now.weights, now.ups, -1, false), what);
    }

    int worst(int what) {
        if (what < 0 || what > 1) {
            return BAD;
        }
        int link = NONE;
        int most = NONE;
        for (int l = 0; l < net.links.size(); l++) {
            if (now.ups.get(l)) {
                int cost = flow(now.weights, with(now.ups, l, false)).cost;
                link = cost > most ? l : link;
                most = Math.max(cost, most);
            }
        }
        return what == 0 ? link : most;
    }

    int rescue(int l, int what) {
        if (noLink(l) || what < 0 || what > 2) {
            return BAD;
        }
        if (!now.ups.get(l)) {
            return NO;
        }
        List<Boolean> ups = with(now.ups, l, false);
        Found found = leastMove(now.weights, ups, l, false);
        return found == null || found.cost >= flow(now.weights, ups).cost ? NONE : told(found, what);
    }

    int count(int what) {
        if (what < 0 || what > 10) {
            return BAD;
        }
        Flow f = flow(now.weights, now.ups);
        int down = (int) now.ups.stream().filter(up -> !up).count();
        int lost = (int) IntStream.range(0, f.lost.length).filter(d -> f.lost[d]).count();
        int over = (int) IntStream.range(0, f.load.length)
            .filter(l -> f.load[l] > 12 * net.links.get(l).room).count();
        return new int[] {net.nodes, net.links.size(), net.demands.size(), down, lost, over,
            now.least, mark(now.weights), now.tabu.size(), past.size(), text.length()}[what];
    }
}
