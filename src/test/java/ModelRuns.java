import java.util.ArrayList;
import java.util.Arrays;
import java.util.HashMap;
import java.util.List;
import java.util.Map;
import java.util.Random;

/**
 * Runs of calls, the same ones every time, whose answers are compared with those of a model that
 * goes another way: it counts the trees of each size and writes all trees of the least sizes down.
 */
public final class ModelRuns {
    private static final int RUNS = 4000;
    private static final int CALLS = 512;
    private static final int MOST_LISTED = 4000;
    /** Around limits and around the ends of the ints. */
    private static final int[] WILD = {Integer.MIN_VALUE, Integer.MIN_VALUE + 1, -1001, -1000, -999, -22, -21, -20, -2,
        -1, 0, 6, 7, 8, 12, 13, 20, 21, 29, 30, 31, 199, 200, Integer.MAX_VALUE - 1, Integer.MAX_VALUE};

    private static int wrong = 0;
    private static int comparedCodes = 0;
    /** How often there was no tree, one, more, MANY, endless many: runs without some kind would be poor. */
    private static final int[] kindsSeen = new int[5];

    private ModelRuns() {
    }

    private record Rule(int sort, List<Integer> symbols) {
        List<Integer> variables() {
            List<Integer> found = new ArrayList<>();
            for (int symbol : symbols) {
                if (symbol < 0 && !found.contains(symbol)) {
                    found.add(symbol);
                }
            }
            return found;
        }
    }

    /** One way to lay a rule over symbols: what each of its variables stands for. */
    private record Way(int rule, List<Integer> sorts, List<List<Integer>> parts) {
    }

    private static final class Model {
        private static final long CAP = 2_000_000;

        int sorts = 0;
        final List<Integer> variables = new ArrayList<>();
        final List<Rule> rules = new ArrayList<>();
        Rule begun = null;
        List<Integer> row = new ArrayList<>();
        final List<Integer> tape = new ArrayList<>();
        int place = -1;
        private final Map<List<Integer>, long[][]> counted = new HashMap<>();
        private int countedUpTo = 0;

        boolean hasSort(int sort) {
            return 0 <= sort && sort < sorts;
        }

        boolean hasSymbol(int symbol) {
            return symbol >= 0 ? symbol <= 29 : -1 - symbol < variables.size();
        }

        int sort() {
            return sorts == 6 ? -1 : sorts++;
        }

        int variable(int sort) {
            if (!hasSort(sort) || variables.size() == 20) {
                return -1;
            }
            variables.add(sort);
            return variables.size() - 1;
        }

        int begin(int sort) {
            if (!hasSort(sort) || rules.size() == 30 || begun != null) {
                return 0;
            }
            begun = new Rule(sort, new ArrayList<>());
            return 1;
        }

        int put(int symbol) {
            if (begun == null || !hasSymbol(symbol) || begun.symbols.size() == 8) {
                return -1;
            }
            if (symbol < 0 && begun.symbols.stream().filter(s -> s < 0).count() == 4) {
                return -1;
            }
            begun.symbols.add(symbol);
            return begun.symbols.size();
        }

        int close() {
            if (begun == null || begun.symbols.isEmpty()) {
                return -1;
            }
            rules.add(begun);
            begun = null;
            counted.clear();
            return rules.size() - 1;
        }

        int token(int symbol) {
            if (!hasSymbol(symbol) || row.size() == 12) {
                return -1;
            }
            row = new ArrayList<>(row);
            row.add(symbol);
            return row.size();
        }

        int drop() {
            int had = row.size();
            row = new ArrayList<>();
            return had;
        }

        int type(int code) {
            if (tape.size() == 200) {
                return -1;
            }
            tape.add(code);
            return tape.size();
        }

        int clear() {
            int had = tape.size();
            tape.clear();
            return had;
        }

        int trees(int sort, int from, int to) {
            if (!hasSort(sort) || from < 0 || from >= to || to > row.size()) {
                return -1;
            }
            return total(sort, row.subList(from, to));
        }

        /** A tree without a sort that comes back on the same stretch has no more codes than this. */
        private static int mostCodes(int symbols) {
            return 6 * (2 * symbols - 1);
        }

        private int total(int sort, List<Integer> symbols) {
            long[] bySize = counts(symbols)[sort];
            long sum = 0;
            for (int size = 1; size < bySize.length; size++) {
                if (size > mostCodes(symbols.size()) && bySize[size] > 0) {
                    return -3;
                }
                sum += bySize[size];
            }
            return sum > 1_000_000 ? -2 : (int) sum;
        }

        private long[][] counts(List<Integer> symbols) {
            int most = mostCodes(Math.max(row.size(), 1)) + 6;
            if (most > countedUpTo) {
                counted.clear();
                countedUpTo = most;
            }
            List<Integer> key = List.copyOf(symbols);
            long[][] known = counted.get(key);
            if (known != null) {
                return known;
            }
            long[][] found = new long[6][countedUpTo + 1];
            List<int[]> units = new ArrayList<>();
            for (int number = 0; number < rules.size(); number++) {
                Rule rule = rules.get(number);
                if (rule.symbols.size() == 1 && rule.symbols.get(0) < 0) {
                    units.add(new int[] {rule.sort, variables.get(-1 - rule.symbols.get(0))});
                    continue;
                }
                for (Way way : ways(number, key)) {
                    long[] sizes = {0, 1};
                    for (int k = 0; k < way.parts.size(); k++) {
                        sizes = product(sizes, counts(way.parts.get(k))[way.sorts.get(k)]);
                    }
                    addTo(found[rule.sort], sizes);
                }
            }
            if (key.size() == 1 && key.get(0) < 0) {
                found[variables.get(-1 - key.get(0))][1]++;
            }
            for (int size = 2; size <= countedUpTo; size++) {
                for (int[] unit : units) {
                    found[unit[0]][size] = Math.min(CAP, found[unit[0]][size] + found[unit[1]][size - 1]);
                }
            }
            counted.put(key, found);
            return found;
        }

        private long[] product(long[] a, long[] b) {
            long[] sizes = new long[Math.min(countedUpTo + 1, a.length + b.length)];
            for (int i = 0; i < a.length; i++) {
                for (int k = 0; a[i] > 0 && k < b.length && i + k < sizes.length; k++) {
                    sizes[i + k] = Math.min(CAP, sizes[i + k] + a[i] * b[k]);
                }
            }
            return sizes;
        }

        private void addTo(long[] sum, long[] more) {
            for (int size = 0; size < more.length && size < sum.length; size++) {
                sum[size] = Math.min(CAP, sum[size] + more[size]);
            }
        }

        private List<Way> ways(int number, List<Integer> symbols) {
            List<Way> found = new ArrayList<>();
            lay(number, 0, symbols, new HashMap<>(), found);
            return found;
        }

        private void lay(int number, int k, List<Integer> rest, Map<Integer, List<Integer>> meant, List<Way> found) {
            Rule rule = rules.get(number);
            if (k == rule.symbols.size()) {
                if (rest.isEmpty()) {
                    List<Integer> sortsOf = new ArrayList<>();
                    List<List<Integer>> parts = new ArrayList<>();
                    for (int symbol : rule.variables()) {
                        sortsOf.add(variables.get(-1 - symbol));
                        parts.add(meant.get(symbol));
                    }
                    found.add(new Way(number, sortsOf, parts));
                }
                return;
            }
            int symbol = rule.symbols.get(k);
            if (symbol >= 0) {
                if (!rest.isEmpty() && rest.get(0) == symbol) {
                    lay(number, k + 1, rest.subList(1, rest.size()), meant, found);
                }
                return;
            }
            for (int length = 1; length <= rest.size(); length++) {
                List<Integer> part = rest.subList(0, length);
                if (meant.containsKey(symbol) && !meant.get(symbol).equals(part)) {
                    continue;
                }
                Map<Integer, List<Integer>> now = new HashMap<>(meant);
                now.put(symbol, part);
                lay(number, k + 1, rest.subList(length, rest.size()), now, found);
            }
        }

        int size(int sort, int which) {
            if (!hasSort(sort) || which < 0 || which > 1 || row.isEmpty()) {
                return 0;
            }
            long[] bySize = counts(row)[sort];
            long before = 0;
            for (int size = 1; size < bySize.length; size++) {
                before += bySize[size];
                if (before > which) {
                    return size;
                }
            }
            return 0;
        }

        /** The codes of the least tree or the next, or null when there are too many to write down. */
        List<Integer> tree(int sort, int which) {
            int size = size(sort, which);
            if (size == 0) {
                return List.of();
            }
            if (counts(row)[sort][size] > MOST_LISTED) {
                return null;
            }
            List<List<Integer>> all = allOfSize(sort, row, size);
            all.sort(ModelRuns::compareCodes);
            int skipped = which == 1 && size(sort, 0) < size ? 1 : 0;
            return all.get(which - skipped);
        }

        private List<List<Integer>> allOfSize(int sort, List<Integer> symbols, int size) {
            List<List<Integer>> found = new ArrayList<>();
            if (counts(symbols)[sort][size] == 0) {
                return found;
            }
            if (size == 1 && symbols.size() == 1 && symbols.get(0) < 0
                && variables.get(-1 - symbols.get(0)) == sort) {
                found.add(List.of(symbols.get(0)));
            }
            for (int number = 0; number < rules.size(); number++) {
                if (rules.get(number).sort == sort) {
                    for (Way way : ways(number, symbols)) {
                        writeParts(way, 0, size - 1, List.of(number), found);
                    }
                }
            }
            return found;
        }

        private void writeParts(Way way, int k, int left, List<Integer> front, List<List<Integer>> found) {
            if (k == way.parts.size()) {
                if (left == 0) {
                    found.add(front);
                }
                return;
            }
            for (int size = 1; size <= left; size++) {
                if (!canHave(way, k + 1, left - size)) {
                    continue;
                }
                for (List<Integer> part : allOfSize(way.sorts.get(k), way.parts.get(k), size)) {
                    List<Integer> longer = new ArrayList<>(front);
                    longer.addAll(part);
                    writeParts(way, k + 1, left - size, longer, found);
                }
            }
        }

        private boolean canHave(Way way, int k, int left) {
            if (k == way.parts.size()) {
                return left == 0;
            }
            long[] bySize = counts(way.parts.get(k))[way.sorts.get(k)];
            for (int size = 1; size <= left; size++) {
                if (bySize[size] > 0 && canHave(way, k + 1, left - size)) {
                    return true;
                }
            }
            return false;
        }

        int stretches(int sort, int what) {
            if (!hasSort(sort) || what < 0 || what > 3) {
                return -1;
            }
            int found = 0;
            for (int from = 0; from < row.size(); from++) {
                for (int to = from + 1; to <= row.size(); to++) {
                    int trees = trees(sort, from, to);
                    int kind = trees == -3 ? 3 : trees == 0 || trees == 1 ? trees : 2;
                    found += kind == what ? 1 : 0;
                }
            }
            return found;
        }

        int grow(int sort) {
            if (!hasSort(sort)) {
                return -1;
            }
            place = -1;
            int[] at = {0};
            int[] fault = {0};
            List<Integer> symbols = read(sort, at, fault);
            if (fault[0] == 0 && at[0] < tape.size()) {
                fault[0] = 4;
            }
            if (fault[0] != 0) {
                place = at[0];
                return fault[0];
            }
            if (symbols.size() > 12) {
                return 5;
            }
            row = symbols;
            return 0;
        }

        /** Longer rows are cut: 13 symbols are as much too many as more. */
        private List<Integer> read(int sort, int[] at, int[] fault) {
            if (at[0] == tape.size()) {
                fault[0] = 1;
                return List.of();
            }
            int code = tape.get(at[0]);
            if (code >= 0 ? code >= rules.size() : -1 - code >= variables.size()) {
                fault[0] = 2;
                return List.of();
            }
            if (sort != (code >= 0 ? rules.get(code).sort : variables.get(-1 - code))) {
                fault[0] = 3;
                return List.of();
            }
            at[0]++;
            if (code < 0) {
                return List.of(code);
            }
            Map<Integer, List<Integer>> meant = new HashMap<>();
            for (int symbol : rules.get(code).variables()) {
                meant.put(symbol, read(variables.get(-1 - symbol), at, fault));
                if (fault[0] != 0) {
                    return List.of();
                }
            }
            List<Integer> symbols = new ArrayList<>();
            for (int symbol : rules.get(code).symbols) {
                symbols.addAll(symbol < 0 ? meant.get(symbol) : List.of(symbol));
            }
            return symbols.size() > 13 ? new ArrayList<>(symbols.subList(0, 13)) : symbols;
        }

        int shortest(int sort) {
            if (!hasSort(sort)) {
                return -1;
            }
            long[] least = new long[6];
            Arrays.fill(least, Integer.MAX_VALUE);
            for (boolean better = true; better;) {
                better = false;
                for (Rule rule : rules) {
                    long length = 0;
                    for (int symbol : rule.symbols) {
                        length += symbol >= 0 ? 1 : least[variables.get(-1 - symbol)];
                    }
                    if (length < least[rule.sort]) {
                        least[rule.sort] = length;
                        better = true;
                    }
                }
            }
            return least[sort] == Integer.MAX_VALUE ? -1 : (int) least[sort];
        }

        int about(int rule, int what) {
            if (rule < 0 || rule >= rules.size() || what < 0 || what > 2) {
                return -1;
            }
            Rule told = rules.get(rule);
            return what == 0 ? told.sort : what == 1 ? told.symbols.size() : told.variables().size();
        }

        int symbol(int rule, int k) {
            if (rule < 0 || rule >= rules.size() || k < 0 || k >= rules.get(rule).symbols.size()) {
                return -1000;
            }
            return rules.get(rule).symbols.get(k);
        }

        int count(int what) {
            int[] all = {sorts, variables.size(), rules.size(), row.size(), tape.size(),
                begun == null ? 0 : begun.symbols.size()};
            return what < 0 || what >= all.length ? -1 : all[what];
        }
    }

    private static int compareCodes(List<Integer> a, List<Integer> b) {
        for (int k = 0; k < a.size() && k < b.size(); k++) {
            if (!a.get(k).equals(b.get(k))) {
                return Integer.compare(a.get(k), b.get(k));
            }
        }
        return Integer.compare(a.size(), b.size());
    }

    /** One run of calls on an object and on the model. The seed says what kind of rules it favours. */
    private static final class Run {
        private final int seed;
        private final Random random;
        private final RuleTrees x = new RuleTrees();
        private final Model model = new Model();
        private final int mostSorts;
        private final int constants;
        private final int longestRow;
        private final int unitShare;
        private final int variableShare;
        private int calls = 0;

        Run(int seed) {
            this.seed = seed;
            random = new Random(seed);
            mostSorts = new int[] {1, 1, 1, 2, 2, 3, 4, 6}[random.nextInt(8)];
            constants = new int[] {1, 1, 2, 3}[random.nextInt(4)];
            longestRow = seed % 10 == 0 ? 12 : 3 + random.nextInt(6);
            variableShare = 5 + random.nextInt(6);
            unitShare = Math.max(0, random.nextInt(6) - 2);
        }

        private void due(String call, int got, int want) {
            calls++;
            if (got != want) {
                wrong++;
                System.out.println("run " + seed + ", call " + calls + ": " + call + " answered " + got
                    + ", the model's answer is " + want);
            }
        }

        private int wild() {
            return WILD[random.nextInt(WILD.length)];
        }

        private int around(int limit) {
            if (random.nextInt(30) == 0) {
                return wild();
            }
            return random.nextInt(12) == 0 ? random.nextInt(limit + 6) - 3 : random.nextInt(Math.max(limit, 1));
        }

        private int someSymbol(int variableShare) {
            if (random.nextInt(30) == 0) {
                return random.nextBoolean() ? wild() : random.nextInt(60) - 25;
            }
            boolean variable = random.nextInt(10) < variableShare && !model.variables.isEmpty();
            return variable ? -1 - random.nextInt(model.variables.size()) : random.nextInt(constants);
        }

        private void build() {
            for (int k = 0; k < mostSorts; k++) {
                due("sort()", x.sort(), model.sort());
            }
            int variables = 1 + random.nextInt(8);
            for (int k = 0; k < variables; k++) {
                variable();
            }
            int rules = 1 + random.nextInt(8);
            for (int k = 0; k < rules; k++) {
                rule();
            }
            if (seed % 3 != 0) {
                constantForEachSort();
            }
        }

        /** With these most rows have trees. */
        private void constantForEachSort() {
            for (int sort = 0; sort < model.sorts; sort++) {
                due("begin(" + sort + ")", x.begin(sort), model.begin(sort));
                put(0);
                due("close()", x.close(), model.close());
            }
        }

        private void variable() {
            int sort = around(model.sorts);
            due("variable(" + sort + ")", x.variable(sort), model.variable(sort));
        }

        private void rule() {
            int sort = around(model.sorts);
            due("begin(" + sort + ")", x.begin(sort), model.begin(sort));
            int kind = random.nextInt(8);
            int length = kind < unitShare ? 1 : random.nextInt(12) == 0 ? random.nextInt(10) : 1 + random.nextInt(3);
            for (int k = 0; k < length; k++) {
                put(kind < unitShare ? 10 : length == 1 ? 0 : variableShare);
            }
            due("close()", x.close(), model.close());
        }

        private void put(int variableShare) {
            int symbol = someSymbol(variableShare);
            due("put(" + symbol + ")", x.put(symbol), model.put(symbol));
        }

        private void row() {
            due("drop()", x.drop(), model.drop());
            int length = random.nextInt(20) == 0 ? 13 : random.nextInt(longestRow + 1);
            if (longestRow < 12) {
                length = Math.min(length, longestRow);
            }
            for (int k = 0; k < length; k++) {
                int symbol = someSymbol(2);
                due("token(" + symbol + ")", x.token(symbol), model.token(symbol));
            }
        }

        /** Mostly a tree that is well-formed, now and then with a code that is not as it must be. */
        private void growSomething() {
            due("clear()", x.clear(), model.clear());
            int sort = around(model.sorts);
            if (model.hasSort(sort)) {
                List<Integer> codes = new ArrayList<>();
                writeTree(sort, codes, 2 + random.nextInt(5));
                for (int code : codes) {
                    int typed = random.nextInt(25) > 0 ? code : random.nextInt(4) == 0 ? wild() : random.nextInt(16) - 8;
                    due("type(" + typed + ")", x.type(typed), model.type(typed));
                }
                if (random.nextInt(10) == 0) {
                    due("type(0)", x.type(0), model.type(0));
                }
            }
            int before = model.row.size();
            List<Integer> old = model.row;
            due("grow(" + sort + ")", x.grow(sort), model.grow(sort));
            due("place()", x.place(), model.place);
            if (model.row.size() > Math.max(longestRow, before)) {
                // Long rows are dear for the model: it goes back to none.
                due("drop()", x.drop(), model.drop());
            }
            if (old == model.row) {
                due("count(3)", x.count(3), before);
            } else {
                askTrees();
            }
        }

        private void writeTree(int sort, List<Integer> codes, int deepest) {
            List<Integer> able = new ArrayList<>();
            for (int v = 0; v < model.variables.size(); v++) {
                if (model.variables.get(v) == sort) {
                    able.add(-1 - v);
                }
            }
            for (int r = 0; r < model.rules.size(); r++) {
                boolean flat = model.rules.get(r).variables().isEmpty();
                if (model.rules.get(r).sort == sort && (deepest > 0 || flat)) {
                    for (int k = flat ? 1 : 0; k < 6; k++) {
                        able.add(r);
                    }
                }
            }
            if (able.isEmpty() || codes.size() > 60) {
                return;
            }
            int code = able.get(random.nextInt(able.size()));
            codes.add(code);
            if (code >= 0) {
                for (int symbol : model.rules.get(code).variables()) {
                    writeTree(model.variables.get(-1 - symbol), codes, deepest - 1);
                }
            }
        }

        private void askTrees() {
            for (int sort = 0; sort < model.sorts && calls < CALLS - 10; sort++) {
                due("trees(" + sort + ", whole)", x.trees(sort, 0, model.row.size()),
                    model.trees(sort, 0, model.row.size()));
                for (int which = 0; which < 2; which++) {
                    askCodes(sort, which);
                }
            }
            due("check()", x.check(), 1);
        }

        private void askCodes(int sort, int which) {
            int size = model.size(sort, which);
            due("size(" + sort + ", " + which + ")", x.size(sort, which), size);
            // Behind its 512th call nothing is promised about an object.
            List<Integer> codes = calls + size + 10 > CALLS ? null : model.tree(sort, which);
            if (codes == null) {
                return;
            }
            comparedCodes += codes.size();
            int trees = model.trees(sort, 0, model.row.size());
            kindsSeen[trees == -3 ? 4 : trees == -2 ? 3 : trees > 1 ? 2 : trees == 1 ? 1 : 0]++;
            for (int k = 0; k < size; k++) {
                String call = "code(" + sort + ", " + which + ", " + k + ") in " + codes;
                due(call, x.code(sort, which, k), codes.get(k));
            }
            due("code behind the last", x.code(sort, which, size), -1000);
        }

        private void askAnything() {
            int a = around(7);
            int b = around(5);
            int c = around(model.row.size() + 1);
            int d = around(model.row.size() + 1);
            switch (random.nextInt(9)) {
                case 0 -> due("trees(" + a + ", " + c + ", " + d + ")", x.trees(a, c, d), model.trees(a, c, d));
                case 1 -> due("stretches(" + a + ", " + b + ")", x.stretches(a, b), model.stretches(a, b));
                case 2 -> due("shortest(" + a + ")", x.shortest(a), model.shortest(a));
                case 3 -> due("about(" + a + ", " + b + ")", x.about(a, b), model.about(a, b));
                case 4 -> due("symbol(" + a + ", " + b + ")", x.symbol(a, b), model.symbol(a, b));
                case 5 -> due("count(" + a + ")", x.count(a), model.count(a));
                case 6 -> due("size(" + a + ", " + b + ")", x.size(a, b), model.size(a, b));
                case 7 -> due("place()", x.place(), model.place);
                default -> due("sort()", x.sort(), model.sort());
            }
        }

        void go() {
            build();
            while (calls < CALLS - 100 && wrong < 20) {
                switch (random.nextInt(12)) {
                    case 0 -> variable();
                    case 1 -> rule();
                    case 2, 3, 4 -> row();
                    case 5, 6 -> growSomething();
                    case 7, 8 -> askTrees();
                    default -> askAnything();
                }
            }
        }
    }

    public static void main(String[] args) {
        for (int seed = 0; seed < RUNS && wrong < 20; seed++) {
            new Run(seed).go();
        }
        boolean poor = false;
        for (int seen : kindsSeen) {
            poor |= seen == 0;
        }
        System.out.println(comparedCodes + " codes compared in " + RUNS + " runs, none, one, more, MANY, ENDLESS: "
            + Arrays.toString(kindsSeen) + "; " + wrong + " answers differ");
        if (wrong != 0 || poor) {
            System.exit(1);
        }
    }
}
