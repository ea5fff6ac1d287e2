/**
 * Weights on the links of a net that spread its load. The words in capitals
 * here (LINK, FAR, SHORT, TWELFTHS, MARK, TABU, ..) are those of the document.
 */
public final class LoadWeights {
    public static final int BAD = -1, NO = -2, FULL = -3, NONE = -4;

    private static final String FIRST_TEXT =
        "n5;l0,1,10,2;l1,4,8,2;l0,2,9,1;l2,4,6,3;l0,3,20,4;l3,4,20,4;l2,1,5,1;d0,4,12;d2,4,5;";
    private static final int MOST_LETTERS = 200;
    private static final int LEAST_NODES = 2, USUAL_NODES = 4, MOST_NODES = 7;
    private static final int MOST_LINKS = 12, MOST_DEMANDS = 6;
    private static final int MOST_SIZE = 99, MOST_WEIGHT = 20;
    private static final int MOST_STEPS = 3, MOST_TABU = 6, MOST_UNDONE = 6;
    private static final int TWELVE = 12, LOST_PRICE = 12000;
    private static final int NO_WAY = -1, NO_LINK = -1;

    private final Letters text = new Letters();
    private final Net net = new Net();
    private final Net draft = new Net();
    private final Reader reader = new Reader();
    private final Flow flow = new Flow(net);
    private final MoveSearch search = new MoveSearch(net, flow);
    private final Standing now = new Standing();
    private final Standing failed = new Standing();
    private final Past past = new Past();
    private final int[] evened = new int[MOST_LINKS];

    public LoadWeights() {
        for (int i = 0; i < FIRST_TEXT.length(); i++) {
            text.put(FIRST_TEXT.charAt(i));
        }
        layText();
        text.length = 0;
    }

    // ---- told

    public int write(int letter) {
        if (letter < 32 || letter > 126) {
            return BAD;
        }
        return text.put(letter) ? text.length : FULL;
    }

    public int wipe() {
        int before = text.length;
        text.length = 0;
        return before;
    }

    public int fault() {
        return reader.read(text, draft);
    }

    public int lay() {
        return layText() ? net.links : NO;
    }

    // ---- moves

    public int move(int l, int w) {
        if (!net.hasLink(l) || !isWeight(w)) {
            return BAD;
        }
        int before = now.weight[l];
        if (before == w) {
            return NO;
        }
        past.keep(now);
        now.weight[l] = w;
        now.noteCost(flow.costOf(now));
        return before;
    }

    public int even(int x, int t) {
        if (!net.hasNode(x) || !net.hasNode(t)) {
            return BAD;
        }
        int others = x == t ? 0 : planEvening(x, t);
        if (others == 0) {
            return NO;
        }
        past.keep(now);
        for (int l = 0; l < net.links; l++) {
            now.weight[l] = evened[l];
        }
        now.noteCost(flow.costOf(now));
        return others;
    }

    public int step(int n) {
        if (n < 1 || n > MOST_STEPS) {
            return BAD;
        }
        int cost = NO;
        for (int done = 0; done < n; done++) {
            if (!search.find(now, NO_LINK, true)) {
                return cost;
            }
            if (done == 0) {
                past.keep(now);
            }
            now.addTabu(now.mark());
            now.weight[search.link] = search.weight;
            cost = search.cost;
            now.noteCost(cost);
        }
        return cost;
    }

    public int turn(int l, int is) {
        if (!net.hasLink(l) || is < 0 || is > 1) {
            return BAD;
        }
        boolean up = is == 1;
        if (now.up[l] == up) {
            return NO;
        }
        past.keep(now);
        now.up[l] = up;
        // The LEAST COST is not told of this: only of MOVES, EVENINGS and STEPS.
        return flow.costOf(now);
    }

    public int undo() {
        return past.giveBack(now) ? past.count : NO;
    }

    // ---- looked at

    public int link(int l, int what) {
        if (!net.hasLink(l)) {
            return BAD;
        }
        flow.costOf(now);
        switch (what) {
            case 0: return net.from[l];
            case 1: return net.to[l];
            case 2: return net.room[l];
            case 3: return now.weight[l];
            case 4: return now.up[l] ? 1 : 0;
            case 5: return flow.load[l];
            case 6: return flow.linkCost(l);
            case 7: return flow.shortDemands(now, l);
            default: return BAD;
        }
    }

    public int far(int x, int t) {
        if (!net.hasNode(x) || !net.hasNode(t)) {
            return BAD;
        }
        flow.measure(now, t);
        int way = flow.far[t][x];
        return way == NO_WAY ? NONE : way;
    }

    public int share(int d, int l) {
        if (!net.hasDemand(d) || !net.hasLink(l)) {
            return BAD;
        }
        flow.costOf(now);
        return flow.share[d][l];
    }

    public int cost() {
        return flow.costOf(now);
    }

    public int tabu(int l, int w) {
        if (!net.hasLink(l) || !isWeight(w)) {
            return BAD;
        }
        return now.isTabu(now.markWith(l, w)) ? 1 : 0;
    }

    // ---- what is best

    public int best(int what) {
        if (what < 0 || what > 2) {
            return BAD;
        }
        return search.find(now, NO_LINK, false) ? search.found(what) : NONE;
    }

    public int worst(int what) {
        if (what < 0 || what > 1) {
            return BAD;
        }
        int link = NO_LINK;
        int most = 0;
        for (int l = 0; l < net.links; l++) {
            if (now.up[l]) {
                int cost = costWithout(l);
                if (link == NO_LINK || cost > most) {
                    link = l;
                    most = cost;
                }
            }
        }
        if (link == NO_LINK) {
            return NONE;
        }
        return what == 0 ? link : most;
    }

    public int rescue(int l, int what) {
        if (!net.hasLink(l) || what < 0 || what > 2) {
            return BAD;
        }
        if (!now.up[l]) {
            return NO;
        }
        int unhelped = costWithout(l);
        if (!search.find(failed, l, false) || search.cost >= unhelped) {
            return NONE;
        }
        return search.found(what);
    }

    public int count(int what) {
        flow.costOf(now);
        switch (what) {
            case 0: return net.nodes;
            case 1: return net.links;
            case 2: return net.demands;
            case 3: return now.linksDown();
            case 4: return flow.lostDemands();
            case 5: return flow.overfullLinks();
            case 6: return now.least;
            case 7: return now.mark();
            case 8: return now.tabuCount;
            case 9: return past.count;
            case 10: return text.length;
            default: return BAD;
        }
    }

    private static boolean isWeight(int w) {
        return w >= 1 && w <= MOST_WEIGHT;
    }

    private boolean layText() {
        // The draft is read first, so that a TEXT with a FAULT leaves the net as it is.
        if (reader.read(text, draft) != NONE || draft.links == 0 || draft.demands == 0) {
            return false;
        }
        reader.read(text, net);
        now.begin(net);
        now.least = flow.costOf(now);
        past.count = 0;
        return true;
    }

    /** Puts into evened what the WEIGHTS would be; answers how many are others, 0 if it can't be done. */
    private int planEvening(int x, int t) {
        flow.measure(now, t);
        int ways = 0;
        int greatest = 0;
        for (int l = 0; l < net.links; l++) {
            if (leadsOn(x, t, l)) {
                ways++;
                greatest = Math.max(greatest, flow.far[t][net.to[l]]);
            }
        }
        if (ways < 2) {
            return 0;
        }
        int others = 0;
        for (int l = 0; l < net.links; l++) {
            boolean counts = leadsOn(x, t, l);
            evened[l] = counts ? greatest + 1 - flow.far[t][net.to[l]] : now.weight[l];
            if (evened[l] > MOST_WEIGHT) {
                return 0;
            }
            if (evened[l] != now.weight[l]) {
                others++;
            }
        }
        return others;
    }

    private boolean leadsOn(int x, int t, int l) {
        return net.from[l] == x && now.up[l] && flow.far[t][net.to[l]] != NO_WAY;
    }

    /** COST were the LINK DOWN; failed is then how all would stand. */
    private int costWithout(int l) {
        failed.copyFrom(now);
        failed.up[l] = false;
        return flow.costOf(failed);
    }

    /** THE TEXT, letter by letter. */
    private static final class Letters {
        final int[] letter = new int[MOST_LETTERS];
        int length;

        boolean put(int next) {
            if (length >= MOST_LETTERS) {
                return false;
            }
            letter[length] = next;
            length++;
            return true;
        }
    }

    /** What a TEXT tells: NODES, LINKS and DEMANDS, which stay until the next one is LAID. */
    private static final class Net {
        int nodes, links, demands;
        final int[] from = new int[MOST_LINKS];
        final int[] to = new int[MOST_LINKS];
        final int[] room = new int[MOST_LINKS];
        final int[] toldWeight = new int[MOST_LINKS];
        final int[] start = new int[MOST_DEMANDS];
        final int[] goal = new int[MOST_DEMANDS];
        final int[] size = new int[MOST_DEMANDS];
        final boolean[] isGoal = new boolean[MOST_NODES];

        void clear() {
            nodes = USUAL_NODES;
            links = 0;
            demands = 0;
            for (int x = 0; x < MOST_NODES; x++) {
                isGoal[x] = false;
            }
        }

        boolean hasNode(int x) {
            return x >= 0 && x < nodes;
        }

        boolean hasLink(int l) {
            return l >= 0 && l < links;
        }

        boolean hasDemand(int d) {
            return d >= 0 && d < demands;
        }

        boolean takeNodes(int n) {
            if (links > 0 || demands > 0 || n < LEAST_NODES || n > MOST_NODES) {
                return false;
            }
            nodes = n;
            return true;
        }

        boolean takeLink(int a, int b, int r, int w) {
            if (links >= MOST_LINKS || !areTwoNodes(a, b) || !isSize(r) || !isWeight(w)) {
                return false;
            }
            from[links] = a;
            to[links] = b;
            room[links] = r;
            toldWeight[links] = w;
            links++;
            return true;
        }

        boolean takeDemand(int a, int b, int s) {
            if (demands >= MOST_DEMANDS || !areTwoNodes(a, b) || !isSize(s)) {
                return false;
            }
            start[demands] = a;
            goal[demands] = b;
            size[demands] = s;
            isGoal[b] = true;
            demands++;
            return true;
        }

        private boolean areTwoNodes(int a, int b) {
            return hasNode(a) && hasNode(b) && a != b;
        }

        private static boolean isSize(int s) {
            return s >= 1 && s <= MOST_SIZE;
        }
    }

    /** Reads a TEXT item by item into a net. */
    private static final class Reader {
        private static final int MOST_NUMBERS = 4, MOST_FIGURES = 2;
        private static final int NOT_SO = -1;
        private final int[] number = new int[MOST_NUMBERS];

        /** Answers the FAULT, or NONE; the net is whole only behind NONE. */
        int read(Letters text, Net into) {
            into.clear();
            int start = 0;
            for (int at = 0; at < text.length; at++) {
                if (text.letter[at] == ';') {
                    if (!takeItem(text, start, at, into)) {
                        return start;
                    }
                    start = at + 1;
                }
            }
            // Letters behind the last ; are an ITEM that has none behind it.
            return start < text.length ? start : NONE;
        }

        private boolean takeItem(Letters text, int start, int end, Net into) {
            if (start >= end) {
                return false;
            }
            int numbers = takeNumbers(text, start + 1, end);
            switch (text.letter[start]) {
                case 'n': return numbers == 1 && into.takeNodes(number[0]);
                case 'l': return numbers == 4 && into.takeLink(number[0], number[1], number[2], number[3]);
                case 'd': return numbers == 3 && into.takeDemand(number[0], number[1], number[2]);
                default: return false;
            }
        }

        /** Answers how many numbers stand there with a comma between each two, or NOT_SO. */
        private int takeNumbers(Letters text, int start, int end) {
            int numbers = 0;
            int figures = 0;
            int value = 0;
            for (int at = start; at <= end; at++) {
                // The end closes the last number as a comma closes the others.
                int letter = at < end ? text.letter[at] : ',';
                if (letter == ',') {
                    if (figures == 0 || numbers >= MOST_NUMBERS) {
                        return NOT_SO;
                    }
                    number[numbers] = value;
                    numbers++;
                    figures = 0;
                    value = 0;
                } else if (letter >= '0' && letter <= '9' && figures < MOST_FIGURES) {
                    value = 10 * value + letter - '0';
                    figures++;
                } else {
                    return NOT_SO;
                }
            }
            return numbers;
        }
    }

    /** All that a change may alter and undoing brings back. */
    private static final class Standing {
        int links;
        final int[] weight = new int[MOST_LINKS];
        final boolean[] up = new boolean[MOST_LINKS];
        final int[] tabuMark = new int[MOST_TABU];
        int tabuCount, nextTabu;
        int least;

        void begin(Net net) {
            links = net.links;
            for (int l = 0; l < links; l++) {
                weight[l] = net.toldWeight[l];
                up[l] = true;
            }
            tabuCount = 0;
            nextTabu = 0;
        }

        void copyFrom(Standing other) {
            links = other.links;
            for (int l = 0; l < MOST_LINKS; l++) {
                weight[l] = other.weight[l];
                up[l] = other.up[l];
            }
            for (int i = 0; i < MOST_TABU; i++) {
                tabuMark[i] = other.tabuMark[i];
            }
            tabuCount = other.tabuCount;
            nextTabu = other.nextTabu;
            least = other.least;
        }

        void noteCost(int cost) {
            least = Math.min(least, cost);
        }

        int mark() {
            return markWith(NO_LINK, 0);
        }

        int markWith(int changed, int w) {
            int mark = 7;
            for (int l = 0; l < links; l++) {
                mark = (31 * mark + (l == changed ? w : weight[l])) % 997;
            }
            return mark;
        }

        /** A MARK that is TABU already takes a place once more. */
        void addTabu(int mark) {
            tabuMark[nextTabu] = mark;
            nextTabu = (nextTabu + 1) % MOST_TABU;
            tabuCount = Math.min(tabuCount + 1, MOST_TABU);
        }

        boolean isTabu(int mark) {
            for (int i = 0; i < tabuCount; i++) {
                if (tabuMark[i] == mark) {
                    return true;
                }
            }
            return false;
        }

        int linksDown() {
            int down = 0;
            for (int l = 0; l < links; l++) {
                if (!up[l]) {
                    down++;
                }
            }
            return down;
        }
    }

    /** How all stood ahead of each of the last changes. */
    private static final class Past {
        private final Standing[] kept = new Standing[MOST_UNDONE];
        private int next;
        int count;

        Past() {
            for (int i = 0; i < MOST_UNDONE; i++) {
                kept[i] = new Standing();
            }
        }

        void keep(Standing standing) {
            kept[next].copyFrom(standing);
            next = (next + 1) % MOST_UNDONE;
            count = Math.min(count + 1, MOST_UNDONE);
        }

        boolean giveBack(Standing into) {
            if (count == 0) {
                return false;
            }
            next = (next + MOST_UNDONE - 1) % MOST_UNDONE;
            count--;
            into.copyFrom(kept[next]);
            return true;
        }
    }

    /** Where the DEMANDS go by the WEIGHTS, and what that costs; told of the standing it was last asked of. */
    private static final class Flow {
        private static final int[] PIECE_ROOMS = {4, 4, 3, 1};
        private static final int[] PIECE_PRICE = {1, 3, 10, 70};
        private static final int FURTHER_PRICE = 500;
        private final Net net;
        /** far[t][x] is FAR of x from t, or NO_WAY. */
        final int[][] far = new int[MOST_NODES][MOST_NODES];
        final int[][] share = new int[MOST_DEMANDS][MOST_LINKS];
        final int[] load = new int[MOST_LINKS];
        private final boolean[] lost = new boolean[MOST_DEMANDS];
        private final int[] order = new int[MOST_NODES];
        private final int[] come = new int[MOST_NODES];
        private final int[] shortLink = new int[MOST_LINKS];

        Flow(Net net) {
            this.net = net;
        }

        int costOf(Standing standing) {
            for (int t = 0; t < net.nodes; t++) {
                if (net.isGoal[t]) {
                    measure(standing, t);
                }
            }
            for (int l = 0; l < net.links; l++) {
                load[l] = 0;
            }
            int cost = 0;
            for (int d = 0; d < net.demands; d++) {
                send(standing, d);
                cost += lost[d] ? LOST_PRICE * net.size[d] : 0;
            }
            for (int l = 0; l < net.links; l++) {
                cost += linkCost(l);
            }
            return cost;
        }

        void measure(Standing standing, int t) {
            int[] way = far[t];
            for (int x = 0; x < net.nodes; x++) {
                way[x] = x == t ? 0 : NO_WAY;
            }
            boolean changed = true;
            // A least way passes no NODE twice, so as many rounds as NODES are enough.
            for (int round = 0; round < net.nodes && changed; round++) {
                changed = false;
                for (int l = 0; l < net.links; l++) {
                    if (standing.up[l] && way[net.to[l]] != NO_WAY) {
                        int by = standing.weight[l] + way[net.to[l]];
                        int before = way[net.from[l]];
                        if (before == NO_WAY || by < before) {
                            way[net.from[l]] = by;
                            changed = true;
                        }
                    }
                }
            }
        }

        boolean isShort(Standing standing, int l, int t) {
            int rest = far[t][net.to[l]];
            return standing.up[l] && rest != NO_WAY && far[t][net.from[l]] == standing.weight[l] + rest;
        }

        boolean isShortForAGoal(Standing standing, int l) {
            for (int t = 0; t < net.nodes; t++) {
                if (net.isGoal[t] && isShort(standing, l, t)) {
                    return true;
                }
            }
            return false;
        }

        int shortDemands(Standing standing, int l) {
            int demands = 0;
            for (int d = 0; d < net.demands; d++) {
                if (!lost[d] && isShort(standing, l, net.goal[d])) {
                    demands++;
                }
            }
            return demands;
        }

        int lostDemands() {
            int count = 0;
            for (int d = 0; d < net.demands; d++) {
                if (lost[d]) {
                    count++;
                }
            }
            return count;
        }

        int overfullLinks() {
            int count = 0;
            for (int l = 0; l < net.links; l++) {
                if (load[l] > TWELVE * net.room[l]) {
                    count++;
                }
            }
            return count;
        }

        int linkCost(int l) {
            int rest = load[l];
            int cost = 0;
            for (int i = 0; i < PIECE_ROOMS.length; i++) {
                int piece = Math.min(rest, PIECE_ROOMS[i] * net.room[l]);
                cost += PIECE_PRICE[i] * piece;
                rest -= piece;
            }
            return cost + FURTHER_PRICE * rest;
        }

        private void send(Standing standing, int d) {
            for (int l = 0; l < net.links; l++) {
                share[d][l] = 0;
            }
            int t = net.goal[d];
            lost[d] = far[t][net.start[d]] == NO_WAY;
            if (lost[d]) {
                return;
            }
            for (int x = 0; x < net.nodes; x++) {
                come[x] = 0;
            }
            come[net.start[d]] = TWELVE * net.size[d];
            orderFarthestFirst(t);
            for (int i = 0; i < net.nodes; i++) {
                if (come[order[i]] > 0) {
                    sendOn(standing, d, order[i]);
                }
            }
        }

        private void orderFarthestFirst(int t) {
            for (int x = 0; x < net.nodes; x++) {
                int place = x;
                while (place > 0 && far[t][order[place - 1]] < far[t][x]) {
                    order[place] = order[place - 1];
                    place--;
                }
                order[place] = x;
            }
        }

        private void sendOn(Standing standing, int d, int x) {
            int ways = 0;
            for (int l = 0; l < net.links; l++) {
                if (net.from[l] == x && isShort(standing, l, net.goal[d])) {
                    shortLink[ways] = l;
                    ways++;
                }
            }
            // None leads on from where the DEMAND goes: there it stays.
            if (ways == 0) {
                return;
            }
            int each = come[x] / ways;
            int left = come[x] % ways;
            for (int i = 0; i < ways; i++) {
                int l = shortLink[i];
                int part = i < left ? each + 1 : each;
                share[d][l] = part;
                load[l] += part;
                come[net.to[l]] += part;
            }
        }
    }

    /** Looks through all MOVES for that of the least COST. */
    private static final class MoveSearch {
        private final Net net;
        private final Flow flow;
        private final Standing tried = new Standing();
        int link, weight, cost;

        MoveSearch(Net net, Flow flow) {
            this.net = net;
            this.flow = flow;
        }

        /** Whether there is a MOVE, not of the LINK passed over; if so, link, weight and cost tell it. */
        boolean find(Standing base, int passedOver, boolean heedsTabu) {
            link = NO_LINK;
            tried.copyFrom(base);
            for (int l = 0; l < net.links; l++) {
                if (l != passedOver) {
                    tryWeights(base, l, heedsTabu);
                    tried.weight[l] = base.weight[l];
                }
            }
            return link != NO_LINK;
        }

        int found(int what) {
            return what == 0 ? link : what == 1 ? weight : cost;
        }

        private void tryWeights(Standing base, int l, boolean heedsTabu) {
            boolean settled = false;
            int then = 0;
            for (int w = 1; w <= MOST_WEIGHT; w++) {
                if (w == base.weight[l]) {
                    continue;
                }
                if (!settled) {
                    tried.weight[l] = w;
                    then = flow.costOf(tried);
                    // A LINK that is not SHORT bears nothing, and a greater WEIGHT leaves that so.
                    settled = !flow.isShortForAGoal(tried, l);
                }
                boolean isLess = link == NO_LINK || then < cost;
                if (isLess && (!heedsTabu || isFree(base, l, w, then))) {
                    link = l;
                    weight = w;
                    cost = then;
                }
            }
        }

        private static boolean isFree(Standing base, int l, int w, int then) {
            return then < base.least || !base.isTabu(base.markWith(l, w));
        }
    }
}
