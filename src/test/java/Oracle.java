import java.util.ArrayList;
import java.util.HashSet;
import java.util.List;
import java.util.Set;

/** The document's terms once more: trees in place of bytes, the whole history in place of what is remembered. */
final class Oracle {
    static final class Node {
        int kind;
        int at;
        int k = -1;
        int number;
        final List<Node> parts = new ArrayList<>();
    }

    static final class Row {
        boolean bool;
        int clock;
        boolean input;
        Node equation;
        int host;
        final List<Integer> hosts = new ArrayList<>();
        /** The value at each instant, null where it is absent; worked out when first asked for. */
        final List<Integer> values = new ArrayList<>();
        final List<Boolean> known = new ArrayList<>();
    }

    private final List<Row> rows = new ArrayList<>();
    private List<Integer> draft = new ArrayList<>();
    private int rule = -1;
    private int faultFlow = -1;
    private int faultByte = -1;
    private int time = 0;

    // Building.

    long flow(boolean bool, int clock, boolean input) {
        boolean good = clock == 0;
        for (int k = 0; k < rows.size(); k++) {
            good |= rows.get(k).bool && (clock == 1 + 2 * k || clock == 2 + 2 * k);
        }
        if (!good) {
            return Desk.ARGUMENT;
        }
        if (rows.size() == 12) {
            return Desk.STATE;
        }
        Row row = new Row();
        row.bool = bool;
        row.clock = clock;
        row.input = input;
        rows.add(row);
        changed();
        return rows.size() - 1;
    }

    long type(long bytes, int n) {
        if (n < 1 || n > 8) {
            return Desk.ARGUMENT;
        }
        if (draft.size() + n > 40) {
            return Desk.STATE;
        }
        List<Integer> added = new ArrayList<>();
        for (int i = 0; i < n; i++) {
            added.add(0, (int) (bytes & 255));
            bytes >>= 8;
        }
        draft.addAll(added);
        return 0;
    }

    long equation(int flow) {
        List<Integer> bytes = draft;
        draft = new ArrayList<>();
        if (!isFlow(flow) || rows.get(flow).input) {
            return Desk.ARGUMENT;
        }
        int[] at = {0};
        Node node = parse(bytes, at);
        if (node == null || at[0] != bytes.size() || height(node) > 10) {
            return Desk.ARGUMENT;
        }
        rows.get(flow).equation = node;
        changed();
        return 0;
    }

    private static int height(Node node) {
        int most = -1;
        for (Node part : node.parts) {
            most = Math.max(most, height(part));
        }
        return most + 1;
    }

    private Node parse(List<Integer> bytes, int[] at) {
        if (at[0] >= bytes.size()) {
            return null;
        }
        Node node = new Node();
        node.at = at[0];
        node.kind = bytes.get(at[0]++);
        if (node.kind > 18) {
            return null;
        }
        if (node.kind == 0 || node.kind == 3 || node.kind >= 16) {
            if (at[0] >= bytes.size()) {
                return null;
            }
            int b = bytes.get(at[0]++);
            if (node.kind == 0) {
                node.number = b - 128;
            } else if (!isFlow(b)) {
                return null;
            } else {
                node.k = b;
            }
        }
        for (int i = 0; i < partsOf(node.kind); i++) {
            Node part = parse(bytes, at);
            if (part == null) {
                return null;
            }
            node.parts.add(part);
        }
        return node;
    }

    static int partsOf(int kind) {
        if (kind <= 3) {
            return 0;
        }
        if (kind == 13) {
            return 3;
        }
        return kind == 4 || kind == 5 || kind == 14 || kind == 16 || kind == 17 ? 1 : 2;
    }

    private boolean isFlow(int flow) {
        return 0 <= flow && flow < rows.size();
    }

    private void changed() {
        rule = -1;
        faultFlow = -1;
        faultByte = -1;
        restart();
    }

    private void restart() {
        time = 0;
        for (Row row : rows) {
            row.hosts.clear();
            row.values.clear();
            row.known.clear();
        }
    }

    // Checking.

    long check() {
        changed();
        for (int r = 1; r <= 5; r++) {
            for (int flow = 0; flow < rows.size(); flow++) {
                int at = faultOf(r, flow);
                if (at >= 0) {
                    rule = r;
                    faultFlow = flow;
                    faultByte = at;
                    return r;
                }
            }
        }
        rule = 0;
        return 0;
    }

    private int faultOf(int r, int flow) {
        Row row = rows.get(flow);
        if (r == 5) {
            return reach(flow).contains(flow) ? 0 : -1;
        }
        if (row.input) {
            return -1;
        }
        if (r == 1) {
            return row.equation == null ? 0 : -1;
        }
        List<Integer> faults = new ArrayList<>();
        if (r == 2) {
            collectTypes(row.equation, row.bool, faults);
        } else if (r == 3) {
            collectClocks(row.equation, row.clock, faults);
        } else {
            collectBeginnings(row.equation, faults);
            if (maybe(row.equation)) {
                faults.add(0);
            }
        }
        return faults.stream().mapToInt(Integer::intValue).min().orElse(-1);
    }

    private void collectTypes(Node node, boolean bool, List<Integer> faults) {
        boolean is;
        boolean inner;
        int kind = node.kind;
        if (kind == 3) {
            is = rows.get(node.k).bool;
        } else if (kind >= 13) {
            is = bool;
        } else {
            is = kind == 1 || kind == 2 || kind == 4 || kind >= 9;
        }
        if (is != bool || kind >= 16 && !rows.get(node.k).bool) {
            faults.add(node.at);
        }
        for (int i = 0; i < node.parts.size(); i++) {
            if (kind == 13) {
                inner = i == 0 || bool;
            } else if (kind >= 14) {
                inner = bool;
            } else {
                inner = kind == 4 || kind == 11 || kind == 12;
            }
            collectTypes(node.parts.get(i), inner, faults);
        }
    }

    private void collectClocks(Node node, int wanted, List<Integer> faults) {
        int kind = node.kind;
        int yes = 1 + 2 * node.k;
        int no = 2 + 2 * node.k;
        int base = node.k < 0 ? -1 : rows.get(node.k).clock;
        int own = kind == 3 || kind == 18 ? base : kind == 16 ? yes : kind == 17 ? no : wanted;
        if (own != wanted) {
            faults.add(node.at);
        }
        for (int i = 0; i < node.parts.size(); i++) {
            int inner = kind == 16 || kind == 17 ? base : kind == 18 ? (i == 0 ? yes : no) : wanted;
            collectClocks(node.parts.get(i), inner, faults);
        }
    }

    private static boolean maybe(Node node) {
        if (node.kind == 14) {
            return true;
        }
        if (node.kind == 15) {
            return maybe(node.parts.get(0));
        }
        return node.parts.stream().anyMatch(Oracle::maybe);
    }

    private static void collectBeginnings(Node node, List<Integer> faults) {
        if ((node.kind == 14 || node.kind == 15) && maybe(node.parts.get(0))) {
            faults.add(node.at);
        }
        for (Node part : node.parts) {
            collectBeginnings(part, faults);
        }
    }

    private Set<Integer> reach(int flow) {
        Set<Integer> found = new HashSet<>();
        List<Integer> open = new ArrayList<>(direct(flow));
        while (!open.isEmpty()) {
            int next = open.remove(0);
            if (found.add(next)) {
                open.addAll(direct(next));
            }
        }
        return found;
    }

    private Set<Integer> direct(int flow) {
        Set<Integer> found = new HashSet<>();
        Row row = rows.get(flow);
        if (row.clock != 0) {
            found.add((row.clock - 1) / 2);
        }
        if (row.equation != null) {
            names(row.equation, found);
        }
        return found;
    }

    private static void names(Node node, Set<Integer> found) {
        if (node.kind == 14) {
            return;
        }
        if (node.k >= 0) {
            found.add(node.k);
        }
        for (Node part : node.parts) {
            names(part, found);
        }
    }

    long fault(int what) {
        if (what < 0 || what > 1) {
            return Desk.ARGUMENT;
        }
        return what == 0 ? faultFlow : faultByte;
    }

    long order(int k) {
        if (rule != 0) {
            return Desk.STATE;
        }
        List<Integer> order = new ArrayList<>();
        Set<Integer> left = new HashSet<>();
        for (int flow = 0; flow < rows.size(); flow++) {
            if (!rows.get(flow).input) {
                left.add(flow);
            }
        }
        while (!left.isEmpty()) {
            int lowest = left.stream().mapToInt(Integer::intValue)
                .filter(flow -> reach(flow).stream().noneMatch(left::contains)).min().getAsInt();
            left.remove(lowest);
            order.add(lowest);
        }
        return k < 0 || k >= order.size() ? Desk.ELEMENT : order.get(k);
    }

    // Running.

    long set(int flow, int value) {
        if (!isFlow(flow) || !rows.get(flow).input) {
            return Desk.ARGUMENT;
        }
        rows.get(flow).host = rows.get(flow).bool ? (value != 0 ? 1 : 0) : value;
        return 0;
    }

    long instants(int n) {
        if (n < 1 || n > 50) {
            return Desk.ARGUMENT;
        }
        if (rule != 0) {
            return Desk.STATE;
        }
        for (int i = 0; i < n; i++) {
            time++;
            for (Row row : rows) {
                row.hosts.add(row.host);
                row.values.add(null);
                row.known.add(false);
            }
            for (int flow = 0; flow < rows.size(); flow++) {
                at(flow, time - 1);
            }
        }
        return 0;
    }

    private Integer at(int flow, int t) {
        Row row = rows.get(flow);
        if (!row.known.get(t)) {
            Integer value = null;
            if (ticks(row.clock, t)) {
                value = row.input ? row.hosts.get(t) : eval(row.equation, row.clock, t);
            }
            row.values.set(t, value);
            row.known.set(t, true);
        }
        return row.values.get(t);
    }

    private boolean ticks(int clock, int t) {
        if (clock == 0) {
            return true;
        }
        Integer value = at((clock - 1) / 2, t);
        return value != null && value == (clock % 2 == 1 ? 1 : 0);
    }

    private int before(int clock, int t) {
        for (int earlier = t - 1; earlier >= 0; earlier--) {
            if (ticks(clock, earlier)) {
                return earlier;
            }
        }
        return -1;
    }

    private int eval(Node node, int clock, int t) {
        if (!ticks(clock, t)) {
            throw new IllegalStateException("the oracle asks for what is absent");
        }
        int k = node.k;
        switch (node.kind) {
            case 0:
                return node.number;
            case 1:
                return 1;
            case 2:
                return 0;
            case 3:
                return at(k, t);
            case 13:
                return part(node, 0, clock, t) == 1 ? part(node, 1, clock, t) : part(node, 2, clock, t);
            case 14:
                return before(clock, t) < 0 ? 0 : part(node, 0, clock, before(clock, t));
            case 15:
                return part(node, before(clock, t) < 0 ? 0 : 1, clock, t);
            case 16:
            case 17:
                return part(node, 0, rows.get(k).clock, t);
            case 18:
                return at(k, t) == 1 ? part(node, 0, 1 + 2 * k, t) : part(node, 1, 2 + 2 * k, t);
            case 4:
                return part(node, 0, clock, t) == 0 ? 1 : 0;
            case 5:
                return -part(node, 0, clock, t);
            default:
                return combine(node.kind, part(node, 0, clock, t), part(node, 1, clock, t));
        }
    }

    private int part(Node node, int which, int clock, int t) {
        return eval(node.parts.get(which), clock, t);
    }

    private static int combine(int kind, int a, int b) {
        switch (kind) {
            case 6:
                return a + b;
            case 7:
                return a - b;
            case 8:
                return a * b;
            case 9:
                return a < b ? 1 : 0;
            case 10:
                return a == b ? 1 : 0;
            case 11:
                return Math.min(a, b);
            default:
                return Math.max(a, b);
        }
    }

    long time() {
        return time;
    }

    long present(int flow) {
        if (!isFlow(flow)) {
            return Desk.ARGUMENT;
        }
        return time > 0 && rows.get(flow).values.get(time - 1) != null ? 1 : 0;
    }

    long value(int flow) {
        if (!isFlow(flow)) {
            return Desk.ARGUMENT;
        }
        for (int t = time - 1; t >= 0; t--) {
            if (rows.get(flow).values.get(t) != null) {
                return rows.get(flow).values.get(t);
            }
        }
        return Desk.ELEMENT;
    }

    long seen(int flow) {
        if (!isFlow(flow)) {
            return Desk.ARGUMENT;
        }
        return rows.get(flow).values.stream().filter(value -> value != null).count();
    }

    long flows() {
        return rows.size();
    }

    // What the writer of random equations asks.

    boolean isBool(int flow) {
        return rows.get(flow).bool;
    }

    int clockOf(int flow) {
        return rows.get(flow).clock;
    }

    boolean isInput(int flow) {
        return rows.get(flow).input;
    }
}
