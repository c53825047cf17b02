/**
 * Where what is known may go: nodes, rules by which it goes from one to another, and the questions
 * that the document asks of them. A set of nodes is an int with a bit for each node.
 *
 * <p>All rows are made once, with the object: no call but one that throws makes an object.
 */
public final class FlowGuard {
    public static final int NONE = -1;

    private static final int NODES = 28;
    private static final int MOST_RULES = 90;
    private static final int LEAST_COST = 1;
    private static final int MOST_COST = 9;
    // Each push carries 1 or more, so there are no more pushes than all costs together.
    private static final int MOST_PUSHES = MOST_RULES * MOST_COST;

    private final int[] begins;
    private final int[] ends;
    private final int[] costs;
    private final boolean[] isOn;
    private int count;

    // Scratch rows: each question writes them anew, so they are no state between calls.
    private final int[] far;
    private final int[] flows;
    private final int[] via;

    public FlowGuard() {
        begins = new int[MOST_RULES];
        ends = new int[MOST_RULES];
        costs = new int[MOST_RULES];
        isOn = new boolean[MOST_RULES];
        count = 0;
        far = new int[NODES];
        flows = new int[MOST_RULES];
        via = new int[NODES];
    }

    public void clear() {
        count = 0;
    }

    public int rule(int from, int to, int cost)
            throws IllegalArgumentException, UnsupportedOperationException {
        needUnlikeNodes(from, to);
        if (cost < LEAST_COST || cost > MOST_COST) {
            throw new IllegalArgumentException("a cost is 1 to 9");
        }
        if (count >= MOST_RULES) {
            throw new UnsupportedOperationException("there are 90 rules");
        }
        int made = count;
        begins[made] = from;
        ends[made] = to;
        costs[made] = cost;
        isOn[made] = true;
        count = made + 1;
        return made;
    }

    public boolean turn(int rule, boolean on) throws IndexOutOfBoundsException {
        if (rule < 0 || rule >= count) {
            throw new IndexOutOfBoundsException("no such rule");
        }
        boolean wasSo = isOn[rule] == on;
        isOn[rule] = on;
        return wasSo;
    }

    public int length(int from, int to) throws IllegalArgumentException {
        needNodes(from, to);
        measureWaysTo(to);
        return far[from];
    }

    public int step(int from, int to, int k)
            throws IllegalArgumentException, IndexOutOfBoundsException {
        needNodes(from, to);
        measureWaysTo(to);
        // Without a way the length is NONE, and every k is refused.
        if (k < 0 || k >= far[from]) {
            throw new IndexOutOfBoundsException("the least way has no such rule");
        }
        return ruleOfLeastWay(from, k);
    }

    public int passed(int from, int to) throws IllegalArgumentException {
        needNodes(from, to);
        int reached = reach(begins, ends, from, 0);
        if (!has(reached, to)) {
            return 0;
        }
        int passed = 0;
        for (int node = 0; node < NODES; node++) {
            boolean between = node != from && node != to && has(reached, node);
            if (between && !has(reach(begins, ends, from, bit(node)), to)) {
                passed |= bit(node);
            }
        }
        return passed;
    }

    public int circle(int node) throws IllegalArgumentException {
        needNode(node);
        return circleOf(node);
    }

    public int circles() {
        int seen = 0;
        int found = 0;
        for (int node = 0; node < NODES; node++) {
            if (!has(seen, node)) {
                seen |= circleOf(node);
                found++;
            }
        }
        return found;
    }

    public int cut(int from, int to) throws IllegalArgumentException {
        needUnlikeNodes(from, to);
        int side = nearSide(from, to);
        int sum = 0;
        for (int rule = 0; rule < count; rule++) {
            if (leaves(rule, side)) {
                sum += costs[rule];
            }
        }
        return sum;
    }

    public int cutRule(int from, int to, int k) throws IllegalArgumentException {
        needUnlikeNodes(from, to);
        if (k < 0) {
            throw new IllegalArgumentException("k is below 0");
        }
        int side = nearSide(from, to);
        int before = 0;
        for (int rule = 0; rule < count; rule++) {
            if (leaves(rule, side)) {
                if (before == k) {
                    return rule;
                }
                before++;
            }
        }
        return NONE;
    }

    public int left(int from, int to) throws IllegalArgumentException {
        needUnlikeNodes(from, to);
        return nearSide(from, to);
    }

    // ---- what a call must be given

    private static void needNode(int node) {
        if (node < 0 || node >= NODES) {
            throw new IllegalArgumentException("no such node");
        }
    }

    private static void needNodes(int from, int to) {
        needNode(from);
        needNode(to);
    }

    private static void needUnlikeNodes(int from, int to) {
        needNodes(from, to);
        if (from == to) {
            throw new IllegalArgumentException("both nodes are one");
        }
    }

    // ---- sets of nodes

    private static int bit(int node) {
        return 1 << node;
    }

    private static boolean has(int set, int node) {
        return (set & bit(node)) != 0;
    }

    // ---- least ways

    /** Sets far[node] to the length of the least way from each node to this one, or NONE. */
    private void measureWaysTo(int to) {
        for (int node = 0; node < NODES; node++) {
            far[node] = NONE;
        }
        far[to] = 0;
        boolean grew = true;
        for (int length = 1; length < NODES && grew; length++) {
            grew = measureWaysOf(length);
        }
    }

    /** Finds the nodes of this length from those of one less: whether there are any. */
    private boolean measureWaysOf(int length) {
        boolean grew = false;
        for (int rule = 0; rule < count; rule++) {
            int start = begins[rule];
            if (isOn[rule] && far[start] == NONE && far[ends[rule]] == length - 1) {
                far[start] = length;
                grew = true;
            }
        }
        return grew;
    }

    /** Rule k of the least way from here to where the ways were measured; k is below its length. */
    private int ruleOfLeastWay(int from, int k) {
        int at = from;
        int rule = NONE;
        for (int i = 0; i <= k; i++) {
            rule = leastRuleOnward(at);
            if (rule == NONE) {
                return NONE;
            }
            at = ends[rule];
        }
        return rule;
    }

    /**
     * The least rule from here by which the rest of the way is one shorter. A rule fixes the node
     * behind it, so the least rule at each step makes the least way.
     */
    private int leastRuleOnward(int at) {
        for (int rule = 0; rule < count; rule++) {
            if (isOn[rule] && begins[rule] == at && far[ends[rule]] == far[at] - 1) {
                return rule;
            }
        }
        return NONE;
    }

    // ---- where ways lead

    /**
     * The nodes to which ways lead from the start that touch no closed node. With the two rows
     * the other way round: the nodes from which they lead to the start.
     */
    private int reach(int[] tails, int[] heads, int start, int closed) {
        int reached = bit(start);
        int before = 0;
        // Each round but the last one finds a node.
        for (int round = 0; round < NODES && reached != before; round++) {
            before = reached;
            for (int rule = 0; rule < count; rule++) {
                if (isOn[rule] && has(reached, tails[rule]) && !has(closed, heads[rule])) {
                    reached |= bit(heads[rule]);
                }
            }
        }
        return reached;
    }

    private int circleOf(int node) {
        return reach(begins, ends, node, 0) & reach(ends, begins, node, 0);
    }

    // ---- least cuts

    private boolean leaves(int rule, int side) {
        return isOn[rule] && has(side, begins[rule]) && !has(side, ends[rule]);
    }

    /**
     * The nodes that are left with a way from the first one without the least cut. When no more
     * flow goes to the last node, the nodes to which some still goes are within the near side of
     * every cut of the least cost: so the rules that leave them are the cut that leaves fewest.
     */
    private int nearSide(int from, int to) {
        for (int rule = 0; rule < count; rule++) {
            flows[rule] = 0;
        }
        int side = spread(from, to);
        for (int push = 0; push < MOST_PUSHES && has(side, to); push++) {
            pushAlong(from, to);
            side = spread(from, to);
        }
        return side;
    }

    /** The nodes to which more flow goes; it stops early when the last node is among them. */
    private int spread(int from, int to) {
        int reached = bit(from);
        int before = 0;
        for (int round = 0; round < NODES && reached != before && !has(reached, to); round++) {
            before = reached;
            reached = spreadByEachRule(reached);
        }
        return reached;
    }

    /** Goes over each rule once, along it or back over its flow; via[node] is how a node was found. */
    private int spreadByEachRule(int start) {
        int reached = start;
        for (int rule = 0; rule < count; rule++) {
            int tail = begins[rule];
            int head = ends[rule];
            boolean atTail = has(reached, tail);
            boolean atHead = has(reached, head);
            if (atTail && !atHead && isOn[rule] && flows[rule] < costs[rule]) {
                reached |= bit(head);
                via[head] = rule;
            } else if (atHead && !atTail && flows[rule] > 0) {
                reached |= bit(tail);
                via[tail] = rule;
            }
        }
        return reached;
    }

    private void pushAlong(int from, int to) {
        int amount = MOST_COST;
        int at = to;
        for (int i = 0; i < NODES && at != from; i++) {
            amount = Math.min(amount, roomInto(at));
            at = nodeBefore(at);
        }
        at = to;
        for (int i = 0; i < NODES && at != from; i++) {
            pushInto(at, amount);
            at = nodeBefore(at);
        }
    }

    // A rule's nodes are two, so a node that was found by a rule is its end or else its beginning,
    // and then it was found back over the rule's flow.

    private int nodeBefore(int node) {
        int rule = via[node];
        return ends[rule] == node ? begins[rule] : ends[rule];
    }

    private int roomInto(int node) {
        int rule = via[node];
        return ends[rule] == node ? costs[rule] - flows[rule] : flows[rule];
    }

    private void pushInto(int node, int amount) {
        int rule = via[node];
        flows[rule] += ends[rule] == node ? amount : -amount;
    }
}
