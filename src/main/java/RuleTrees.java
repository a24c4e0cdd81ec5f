/**
 * Trees that rules give to rows of symbols: how many a row has, or endless many; the least one and
 * the next, told as rows of codes; rows that grow from codes; the shortest rows of all.
 */
public final class RuleTrees {
    public static final int NONE = -1;
    public static final int MANY = -2;
    public static final int ENDLESS = -3;
    public static final int NOTHING = -1000;

    private static final int MAX_SORTS = 6;
    private static final int MAX_VARIABLES = 20;
    private static final int CONSTANTS = 30;
    private static final int MAX_RULES = 30;
    private static final int MAX_SYMBOLS = 8;
    private static final int MAX_SLOTS = 4;
    private static final int MAX_ROW = 12;
    private static final int MAX_TAPE = 200;
    private static final int MAX_COUNTED = 1000000;

    private static final int MAX_STRETCHES = MAX_ROW * (MAX_ROW + 1) / 2;
    private static final int MAX_CELLS = MAX_STRETCHES * MAX_SORTS;

    /**
     * No tree in the chart is larger. One for 12 symbols stands on at most 23 stretches, on each
     * with at most 6 codes (else a sort comes twice); a next tree may go round once, 6 codes more.
     */
    private static final int MAX_SIZE = 150;

    private final Grammar grammar;
    private final Chart chart;
    private final Grower grower;
    private final ShortestRows shortestRows;
    private final Symbols row;
    private final Symbols tape;
    private final Symbols leastCodes;
    private final Symbols nextCodes;
    private int latestPlace;

    public RuleTrees() {
        grammar = new Grammar();
        chart = new Chart(grammar);
        grower = new Grower(grammar);
        shortestRows = new ShortestRows(grammar);
        row = new Symbols(MAX_ROW);
        tape = new Symbols(MAX_TAPE);
        leastCodes = new Symbols(MAX_SIZE);
        nextCodes = new Symbols(MAX_SIZE);
        latestPlace = NONE;
    }

    public int sort() {
        return grammar.addSort();
    }

    public int variable(int sort) {
        return grammar.addVariable(sort);
    }

    public int begin(int sort) {
        return grammar.beginRule(sort) ? 1 : 0;
    }

    public int put(int symbol) {
        return grammar.putSymbol(symbol);
    }

    public int close() {
        return grammar.closeRule();
    }

    public int token(int symbol) {
        if (!grammar.hasSymbol(symbol)) {
            return NONE;
        }
        return row.append(symbol) ? row.length : NONE;
    }

    public int drop() {
        return row.empty();
    }

    public int trees(int sort, int from, int to) {
        if (!grammar.hasSort(sort) || from < 0 || from >= to || to > row.length) {
            return NONE;
        }
        chart.catchUp(row);
        int ways = chart.waysOf(sort, from, to);
        if (ways == Ways.ENDLESS_WAYS) {
            return ENDLESS;
        }
        return ways == Ways.MANY_WAYS ? MANY : ways;
    }

    public int size(int sort, int which) {
        if (!canHaveTree(sort, which)) {
            return 0;
        }
        chart.catchUp(row);
        return chart.sizeOf(sort, which, row.length);
    }

    public int code(int sort, int which, int k) {
        if (!canHaveTree(sort, which)) {
            return NOTHING;
        }
        chart.catchUp(row);
        chart.spell(sort, which, row.length, leastCodes);
        return leastCodes.at(k);
    }

    public int stretches(int sort, int what) {
        if (!grammar.hasSort(sort) || what < 0 || what > 3) {
            return NONE;
        }
        chart.catchUp(row);
        int found = 0;
        for (int to = 1; to <= row.length; to++) {
            for (int from = 0; from < to; from++) {
                if (Ways.kindOf(chart.waysOf(sort, from, to)) == what) {
                    found++;
                }
            }
        }
        return found;
    }

    public int type(int code) {
        return tape.append(code) ? tape.length : NONE;
    }

    public int clear() {
        return tape.empty();
    }

    public int grow(int sort) {
        if (!grammar.hasSort(sort)) {
            return NONE;
        }
        int verdict = grower.judge(tape, sort);
        latestPlace = grower.faultPlace;
        if (verdict == Grower.GROWN) {
            row.copyOf(grower.grown);
        }
        return verdict;
    }

    public int place() {
        return latestPlace;
    }

    public int shortest(int sort) {
        return grammar.hasSort(sort) ? shortestRows.lengthFor(sort) : NONE;
    }

    public int about(int rule, int what) {
        if (!grammar.hasRule(rule)) {
            return NONE;
        }
        switch (what) {
            case 0:
                return grammar.sortOfCode(rule);
            case 1:
                return grammar.lengthOfRule(rule);
            case 2:
                return grammar.slotsOfCode(rule);
            default:
                return NONE;
        }
    }

    public int symbol(int rule, int k) {
        return grammar.symbolAt(rule, k);
    }

    public int count(int what) {
        switch (what) {
            case 0:
                return grammar.sorts;
            case 1:
                return grammar.variables;
            case 2:
                return grammar.rules;
            case 3:
                return row.length;
            case 4:
                return tape.length;
            case 5:
                return grammar.begunLength();
            default:
                return NONE;
        }
    }

    public int check() {
        chart.catchUp(row);
        for (int sort = 0; sort < grammar.sorts; sort++) {
            if (!isSound(sort)) {
                return 0;
            }
        }
        return 1;
    }

    private boolean canHaveTree(int sort, int which) {
        return grammar.hasSort(sort) && (which == 0 || which == 1) && row.length > 0;
    }

    private boolean isSound(int sort) {
        if (row.length == 0) {
            return true;
        }
        int ways = chart.waysOf(sort, 0, row.length);
        chart.spell(sort, 0, row.length, leastCodes);
        chart.spell(sort, 1, row.length, nextCodes);
        boolean hasLeast = leastCodes.length > 0;
        boolean hasNext = nextCodes.length > 0;
        if (hasLeast != (ways > 0) || hasNext != (ways > 1)) {
            return false;
        }
        if (hasLeast && !isTreeOfRow(leastCodes, sort)) {
            return false;
        }
        return !hasNext || (isTreeOfRow(nextCodes, sort) && leastCodes.isLessThan(nextCodes));
    }

    private boolean isTreeOfRow(Symbols codes, int sort) {
        return grower.judge(codes, sort) == Grower.GROWN && grower.grown.isSameAs(row);
    }

    /** A row of numbers with a limit: symbols or codes. */
    private static final class Symbols {
        private final int[] items;
        int length;

        Symbols(int limit) {
            items = new int[Math.max(limit, 0)];
            length = 0;
        }

        int at(int k) {
            return k >= 0 && k < length && k < items.length ? items[k] : NOTHING;
        }

        boolean append(int item) {
            if (length < 0 || length >= items.length) {
                return false;
            }
            items[length] = item;
            length++;
            return true;
        }

        int empty() {
            int had = length;
            length = 0;
            return had;
        }

        void copyOf(Symbols other) {
            length = 0;
            for (int k = 0; k < other.length; k++) {
                append(other.at(k));
            }
        }

        boolean isSameAs(Symbols other) {
            return length == other.length && firstDifference(other) == length;
        }

        boolean isLessThan(Symbols other) {
            if (length != other.length) {
                return length < other.length;
            }
            int k = firstDifference(other);
            return k < length && at(k) < other.at(k);
        }

        private int firstDifference(Symbols other) {
            int shared = Math.min(length, other.length);
            for (int k = 0; k < shared; k++) {
                if (at(k) != other.at(k)) {
                    return k;
                }
            }
            return shared;
        }
    }

    /**
     * Sorts, variables and rules. The rule that is begun stands behind the others. A rule's SLOTS
     * are its different variables in the order in which they stand in it first.
     */
    private static final class Grammar {
        static final int NO_SLOT = -1;

        int sorts;
        int variables;
        int rules;
        private boolean begun;
        private int begunVariables;
        private final int[] variableSort;
        private final int[] ruleSort;
        private final int[] ruleLength;
        private final int[] ruleSymbols;
        private final int[] symbolSlot;
        private final int[] slotCount;
        private final int[] slotSort;

        Grammar() {
            variableSort = new int[MAX_VARIABLES];
            ruleSort = new int[MAX_RULES];
            ruleLength = new int[MAX_RULES];
            ruleSymbols = new int[MAX_RULES * MAX_SYMBOLS];
            symbolSlot = new int[MAX_RULES * MAX_SYMBOLS];
            slotCount = new int[MAX_RULES];
            slotSort = new int[MAX_RULES * MAX_SLOTS];
        }

        boolean hasSort(int sort) {
            return sort >= 0 && sort < sorts;
        }

        boolean hasRule(int rule) {
            return rule >= 0 && rule < rules;
        }

        boolean hasSymbol(int symbol) {
            return symbol >= -variables && symbol < CONSTANTS;
        }

        boolean hasCode(int code) {
            return code >= -variables && code < rules;
        }

        int sortOfCode(int code) {
            if (!hasCode(code)) {
                return NONE;
            }
            return code < 0 ? variableSort[-1 - code] : ruleSort[code];
        }

        int slotsOfCode(int code) {
            return hasRule(code) ? slotCount[code] : 0;
        }

        int lengthOfRule(int rule) {
            return hasRule(rule) ? ruleLength[rule] : 0;
        }

        int symbolAt(int rule, int k) {
            return hasRule(rule) && k >= 0 && k < ruleLength[rule] ? ruleSymbols[rule * MAX_SYMBOLS + k] : NOTHING;
        }

        int slotAt(int rule, int k) {
            return hasRule(rule) && k >= 0 && k < ruleLength[rule] ? symbolSlot[rule * MAX_SYMBOLS + k] : NO_SLOT;
        }

        int sortOfSlot(int rule, int slot) {
            return hasRule(rule) && slot >= 0 && slot < slotCount[rule] ? slotSort[rule * MAX_SLOTS + slot] : NONE;
        }

        boolean isUnit(int rule) {
            return lengthOfRule(rule) == 1 && slotsOfCode(rule) == 1;
        }

        int begunLength() {
            return begun && rules < MAX_RULES ? ruleLength[rules] : 0;
        }

        int addSort() {
            if (sorts >= MAX_SORTS) {
                return NONE;
            }
            sorts++;
            return sorts - 1;
        }

        int addVariable(int sort) {
            if (!hasSort(sort) || variables >= MAX_VARIABLES) {
                return NONE;
            }
            variableSort[variables] = sort;
            variables++;
            return variables - 1;
        }

        boolean beginRule(int sort) {
            if (begun || !hasSort(sort) || rules >= MAX_RULES) {
                return false;
            }
            begun = true;
            begunVariables = 0;
            ruleSort[rules] = sort;
            ruleLength[rules] = 0;
            slotCount[rules] = 0;
            return true;
        }

        int putSymbol(int symbol) {
            if (!begun || rules >= MAX_RULES || !hasSymbol(symbol)) {
                return NONE;
            }
            int length = ruleLength[rules];
            if (length >= MAX_SYMBOLS || (symbol < 0 && begunVariables >= MAX_SLOTS)) {
                return NONE;
            }
            int at = rules * MAX_SYMBOLS + length;
            symbolSlot[at] = symbol < 0 ? slotInBegun(symbol) : NO_SLOT;
            ruleSymbols[at] = symbol;
            ruleLength[rules] = length + 1;
            if (symbol < 0) {
                begunVariables++;
            }
            return length + 1;
        }

        int closeRule() {
            if (!begun || begunLength() == 0) {
                return NONE;
            }
            begun = false;
            rules++;
            return rules - 1;
        }

        private int slotInBegun(int symbol) {
            int first = rules * MAX_SYMBOLS;
            for (int k = 0; k < ruleLength[rules]; k++) {
                if (ruleSymbols[first + k] == symbol) {
                    return symbolSlot[first + k];
                }
            }
            int slot = slotCount[rules];
            if (slot >= MAX_SLOTS) {
                return NO_SLOT;
            }
            slotSort[rules * MAX_SLOTS + slot] = variableSort[-1 - symbol];
            slotCount[rules] = slot + 1;
            return slot;
        }
    }

    /** How many trees there are, from 0 on; beyond the limit only that there are many, or endless many. */
    private static final class Ways {
        static final int MANY_WAYS = MAX_COUNTED + 1;
        static final int ENDLESS_WAYS = MAX_COUNTED + 2;

        private Ways() {
        }

        static int plus(int a, int b) {
            if (a == ENDLESS_WAYS || b == ENDLESS_WAYS) {
                return ENDLESS_WAYS;
            }
            return Math.min(a + b, MANY_WAYS);
        }

        static int times(int a, int b) {
            if (a == 0 || b == 0) {
                return 0;
            }
            if (a == ENDLESS_WAYS || b == ENDLESS_WAYS) {
                return ENDLESS_WAYS;
            }
            return (int) Math.min((long) a * b, (long) MANY_WAYS);
        }

        static int kindOf(int ways) {
            if (ways == ENDLESS_WAYS) {
                return 3;
            }
            return Math.min(ways, 2);
        }
    }

    /**
     * The two least trees of each cell. A tree is its first code and the numbers of the trees that
     * are its parts, so a long row of codes is nowhere held, and parts are shared. Size 0: no tree.
     */
    private static final class TreeTable {
        /** The tree that is offered to a cell stands behind all others. */
        private static final int DRAFT = 2 * MAX_CELLS;

        private final int[] sizes;
        private final int[] heads;
        private final int[] partCounts;
        private final int[] parts;
        private final int[] leftStack;
        private final int[] rightStack;

        TreeTable() {
            sizes = new int[DRAFT + 1];
            heads = new int[DRAFT + 1];
            partCounts = new int[DRAFT + 1];
            parts = new int[(DRAFT + 1) * MAX_SLOTS];
            leftStack = new int[MAX_SIZE];
            rightStack = new int[MAX_SIZE];
        }

        static int treeOf(int cell, int which) {
            return 2 * cell + which;
        }

        int sizeAt(int tree) {
            return tree >= 0 && tree <= DRAFT ? sizes[tree] : 0;
        }

        void forget(int cell) {
            if (isCell(cell)) {
                sizes[treeOf(cell, 0)] = 0;
                sizes[treeOf(cell, 1)] = 0;
            }
        }

        void startDraft(int head, int partCount) {
            heads[DRAFT] = head;
            partCounts[DRAFT] = Math.min(partCount, MAX_SLOTS);
        }

        void setDraftPart(int slot, int tree) {
            if (slot >= 0 && slot < MAX_SLOTS && tree >= 0 && tree < DRAFT) {
                parts[DRAFT * MAX_SLOTS + slot] = tree;
            }
        }

        /** The cell keeps the draft if it is among its two least trees; none is offered twice. */
        void offerDraft(int cell) {
            if (!isCell(cell)) {
                return;
            }
            int least = treeOf(cell, 0);
            int next = treeOf(cell, 1);
            sizes[DRAFT] = draftSize();
            if (sizes[DRAFT] > MAX_SIZE || (sizes[next] > 0 && !isLess(DRAFT, next))) {
                return;
            }
            if (sizes[least] == 0 || isLess(DRAFT, least)) {
                copyTree(least, next);
                copyTree(DRAFT, least);
            } else {
                copyTree(DRAFT, next);
            }
        }

        void spellTree(int tree, Symbols codes) {
            codes.empty();
            if (sizeAt(tree) == 0) {
                return;
            }
            int open = 1;
            leftStack[0] = tree;
            for (int step = 0; step < MAX_SIZE && open > 0; step++) {
                open--;
                int top = leftStack[open];
                codes.append(heads[top]);
                open = stackParts(top, leftStack, open);
            }
        }

        private static boolean isCell(int cell) {
            return cell >= 0 && cell < MAX_CELLS;
        }

        private int draftSize() {
            int sum = 1;
            for (int slot = 0; slot < partCounts[DRAFT]; slot++) {
                sum += sizeAt(parts[DRAFT * MAX_SLOTS + slot]);
            }
            return sum;
        }

        private void copyTree(int source, int target) {
            sizes[target] = sizes[source];
            heads[target] = heads[source];
            partCounts[target] = partCounts[source];
            for (int slot = 0; slot < partCounts[source]; slot++) {
                parts[target * MAX_SLOTS + slot] = parts[source * MAX_SLOTS + slot];
            }
        }

        private boolean isLess(int left, int right) {
            if (sizes[left] != sizes[right]) {
                return sizes[left] < sizes[right];
            }
            int open = 1;
            leftStack[0] = left;
            rightStack[0] = right;
            for (int step = 0; step < MAX_SIZE && open > 0; step++) {
                open--;
                int a = leftStack[open];
                int b = rightStack[open];
                if (heads[a] != heads[b]) {
                    return heads[a] < heads[b];
                }
                if (a != b) {
                    stackParts(b, rightStack, open);
                    open = stackParts(a, leftStack, open);
                }
            }
            return false;
        }

        /** The first part comes to lie on top: its codes are the next ones. */
        private int stackParts(int tree, int[] stack, int open) {
            int top = open;
            for (int slot = partCounts[tree] - 1; slot >= 0 && top < stack.length; slot--) {
                stack[top] = parts[tree * MAX_SLOTS + slot];
                top++;
            }
            return top;
        }
    }

    /**
     * For each stretch and sort (a CELL) how many trees there are, and the two least ones. What has
     * been found for the first symbols of a row stays good as long as these symbols and the rules do.
     */
    private static final class Chart {
        private final Grammar grammar;
        private final TreeTable table;
        private final int[] ways;
        private final int[] symbols;
        private int done;
        private int rulesSeen;
        private final int[] unitRules;
        private int units;
        private final int[] unitReach;
        private final int[] spanFrom;
        private final int[] spanTo;
        private final int[] ownWays;

        Chart(Grammar grammar) {
            this.grammar = grammar;
            table = new TreeTable();
            ways = new int[MAX_CELLS];
            symbols = new int[MAX_ROW];
            unitRules = new int[MAX_RULES];
            unitReach = new int[MAX_SORTS];
            spanFrom = new int[MAX_SLOTS];
            spanTo = new int[MAX_SLOTS];
            ownWays = new int[MAX_SORTS];
        }

        int waysOf(int sort, int from, int to) {
            return waysAt(cellOf(sort, from, to));
        }

        int sizeOf(int sort, int which, int length) {
            return table.sizeAt(TreeTable.treeOf(cellOf(sort, 0, length), which));
        }

        void spell(int sort, int which, int length, Symbols codes) {
            table.spellTree(TreeTable.treeOf(cellOf(sort, 0, length), which), codes);
        }

        void catchUp(Symbols row) {
            if (rulesSeen < grammar.rules) {
                seeRules();
                done = 0;
            }
            for (int at = 0; at < row.length && at < MAX_ROW; at++) {
                if (at < done && symbols[at] == row.at(at)) {
                    continue;
                }
                symbols[at] = row.at(at);
                done = at + 1;
                // From short to long: parts stand on shorter stretches than the whole.
                for (int from = at; from >= 0; from--) {
                    fillStretch(from, at + 1);
                }
            }
        }

        private static int cellOf(int sort, int from, int to) {
            if (sort < 0 || sort >= MAX_SORTS || from < 0 || from >= to || to > MAX_ROW) {
                return NONE;
            }
            return (to * (to - 1) / 2 + from) * MAX_SORTS + sort;
        }

        private int waysAt(int cell) {
            return cell >= 0 && cell < MAX_CELLS ? ways[cell] : 0;
        }

        private void setWays(int cell, int told) {
            if (cell >= 0 && cell < MAX_CELLS) {
                ways[cell] = told;
            }
        }

        private int symbolIn(int at) {
            return at >= 0 && at < MAX_ROW ? symbols[at] : NOTHING;
        }

        private void seeRules() {
            for (int rule = rulesSeen; rule < grammar.rules; rule++) {
                if (grammar.isUnit(rule) && units < MAX_RULES) {
                    unitRules[units] = rule;
                    units++;
                    reachFurther(grammar.sortOfCode(rule), grammar.sortOfSlot(rule, 0));
                }
            }
            rulesSeen = grammar.rules;
        }

        private void reachFurther(int whole, int part) {
            if (part < 0 || part >= MAX_SORTS) {
                return;
            }
            int gained = unitReach[part] | (1 << part);
            for (int sort = 0; sort < MAX_SORTS; sort++) {
                if (sort == whole || reaches(sort, whole)) {
                    unitReach[sort] |= gained;
                }
            }
        }

        private boolean reaches(int sort, int other) {
            return sort >= 0 && sort < MAX_SORTS && ((unitReach[sort] >> other) & 1) == 1;
        }

        private void fillStretch(int from, int to) {
            for (int sort = 0; sort < MAX_SORTS; sort++) {
                int cell = cellOf(sort, from, to);
                setWays(cell, 0);
                table.forget(cell);
            }
            if (to - from == 1) {
                addLeaf(from);
            }
            for (int rule = 0; rule < grammar.rules; rule++) {
                if (!grammar.isUnit(rule)) {
                    fit(rule, from, to, 0, from, 0);
                }
            }
            if (units > 0) {
                addUnitWays(from, to);
                markEndless(from, to);
                addUnitTrees(from, to);
            }
        }

        private void addLeaf(int at) {
            int symbol = symbolIn(at);
            if (symbol >= 0) {
                return;
            }
            int cell = cellOf(grammar.sortOfCode(symbol), at, at + 1);
            setWays(cell, 1);
            table.startDraft(symbol, 0);
            table.offerDraft(cell);
        }

        /** Goes through all ways to lay the rule's symbols from k on over the row from at on. */
        private void fit(int rule, int from, int to, int k, int at, int bound) {
            int behind = grammar.lengthOfRule(rule) - k - 1;
            if (behind < 0) {
                if (at == to) {
                    addTrees(rule, from, to);
                }
                return;
            }
            int last = to - behind;
            if (at >= last) {
                return;
            }
            int slot = grammar.slotAt(rule, k);
            if (slot < 0 || slot >= MAX_SLOTS) {
                if (symbolIn(at) == grammar.symbolAt(rule, k)) {
                    fit(rule, from, to, k + 1, at + 1, bound);
                }
            } else if (slot < bound) {
                int end = at + spanTo[slot] - spanFrom[slot];
                if (end <= last && hasSameSymbols(spanFrom[slot], at, end - at)) {
                    fit(rule, from, to, k + 1, end, bound);
                }
            } else {
                int sort = grammar.sortOfSlot(rule, slot);
                for (int end = behind == 0 ? last : at + 1; end <= last; end++) {
                    if (waysOf(sort, at, end) > 0) {
                        spanFrom[slot] = at;
                        spanTo[slot] = end;
                        fit(rule, from, to, k + 1, end, bound + 1);
                    }
                }
            }
        }

        private boolean hasSameSymbols(int one, int other, int length) {
            for (int k = 0; k < length; k++) {
                if (symbolIn(one + k) != symbolIn(other + k)) {
                    return false;
                }
            }
            return true;
        }

        /** The spans are set for all the rule's slots. */
        private void addTrees(int rule, int from, int to) {
            int cell = cellOf(grammar.sortOfCode(rule), from, to);
            int slots = grammar.slotsOfCode(rule);
            int product = 1;
            table.startDraft(rule, slots);
            for (int slot = 0; slot < slots; slot++) {
                int part = partCell(rule, slot);
                product = Ways.times(product, waysAt(part));
                table.setDraftPart(slot, TreeTable.treeOf(part, 0));
            }
            setWays(cell, Ways.plus(waysAt(cell), product));
            table.offerDraft(cell);
            // Behind the least tree of this way comes one with a single part that is not the least.
            for (int slot = 0; slot < slots; slot++) {
                int part = partCell(rule, slot);
                if (table.sizeAt(TreeTable.treeOf(part, 1)) > 0) {
                    table.setDraftPart(slot, TreeTable.treeOf(part, 1));
                    table.offerDraft(cell);
                    table.setDraftPart(slot, TreeTable.treeOf(part, 0));
                }
            }
        }

        private int partCell(int rule, int slot) {
            if (slot < 0 || slot >= MAX_SLOTS) {
                return NONE;
            }
            return cellOf(grammar.sortOfSlot(rule, slot), spanFrom[slot], spanTo[slot]);
        }

        /** Right where no sort comes back to itself: a chain of unit rules has less than 6 then. */
        private void addUnitWays(int from, int to) {
            for (int sort = 0; sort < MAX_SORTS; sort++) {
                ownWays[sort] = waysOf(sort, from, to);
            }
            for (int round = 0; round < MAX_SORTS; round++) {
                for (int sort = 0; sort < MAX_SORTS; sort++) {
                    int sum = ownWays[sort];
                    for (int unit = 0; unit < units; unit++) {
                        int rule = unitRules[unit];
                        if (grammar.sortOfCode(rule) == sort) {
                            sum = Ways.plus(sum, waysOf(grammar.sortOfSlot(rule, 0), from, to));
                        }
                    }
                    setWays(cellOf(sort, from, to), sum);
                }
            }
        }

        private void markEndless(int from, int to) {
            for (int back = 0; back < MAX_SORTS; back++) {
                if (!reaches(back, back) || waysOf(back, from, to) == 0) {
                    continue;
                }
                for (int sort = 0; sort < MAX_SORTS; sort++) {
                    if (reaches(sort, back)) {
                        setWays(cellOf(sort, from, to), Ways.ENDLESS_WAYS);
                    }
                }
            }
        }

        /** From small trees to large ones, so that a tree stays where it is once it is a part. */
        private void addUnitTrees(int from, int to) {
            int size = nextSize(from, to, 0);
            for (int step = 0; step < MAX_SIZE && size > 0; step++) {
                for (int unit = 0; unit < units; unit++) {
                    offerUnit(unitRules[unit], from, to, size);
                }
                size = nextSize(from, to, size);
            }
        }

        private void offerUnit(int rule, int from, int to, int size) {
            int cell = cellOf(grammar.sortOfCode(rule), from, to);
            int part = cellOf(grammar.sortOfSlot(rule, 0), from, to);
            for (int which = 0; which < 2; which++) {
                int tree = TreeTable.treeOf(part, which);
                if (table.sizeAt(tree) == size) {
                    table.startDraft(rule, 1);
                    table.setDraftPart(0, tree);
                    table.offerDraft(cell);
                }
            }
        }

        /** The least size above a given one among the stretch's trees; 0 when there is none. */
        private int nextSize(int from, int to, int above) {
            int least = 0;
            for (int sort = 0; sort < MAX_SORTS; sort++) {
                for (int which = 0; which < 2; which++) {
                    int size = table.sizeAt(TreeTable.treeOf(cellOf(sort, from, to), which));
                    if (size > above && (least == 0 || size < least)) {
                        least = size;
                    }
                }
            }
            return least;
        }
    }

    /** Reads codes as a tree, and lays out its symbols. */
    private static final class Grower {
        static final int GROWN = 0;
        private static final int MISSING = 1;
        private static final int UNKNOWN = 2;
        private static final int OF_OTHER_SORT = 3;
        private static final int BEHIND_TREE = 4;
        private static final int TOO_LONG = 5;

        /** Each code takes one awaited tree away and brings at most four. */
        private static final int MAX_AWAITED = 1 + MAX_TAPE * (MAX_SLOTS - 1);

        private final Grammar grammar;
        private final int[] awaited;
        /** The symbols of the trees that no rule has taken up yet, the latest behind the others. */
        final Symbols grown;
        private final int[] starts;
        private int waiting;
        private final Symbols joined;
        int faultPlace;

        Grower(Grammar grammar) {
            this.grammar = grammar;
            awaited = new int[MAX_AWAITED];
            grown = new Symbols(MAX_ROW);
            starts = new int[MAX_ROW];
            joined = new Symbols(MAX_ROW);
            faultPlace = NONE;
        }

        int judge(Symbols codes, int sort) {
            int verdict = readCodes(codes, sort);
            if (verdict != GROWN) {
                return verdict;
            }
            faultPlace = NONE;
            return layOut(codes) ? GROWN : TOO_LONG;
        }

        private int readCodes(Symbols codes, int sort) {
            int open = 1;
            awaited[0] = sort;
            for (int at = 0; at < codes.length; at++) {
                int code = codes.at(at);
                faultPlace = at;
                if (open == 0) {
                    return BEHIND_TREE;
                }
                open--;
                if (!grammar.hasCode(code)) {
                    return UNKNOWN;
                }
                if (grammar.sortOfCode(code) != awaited[open]) {
                    return OF_OTHER_SORT;
                }
                open = awaitParts(code, open);
            }
            faultPlace = codes.length;
            return open > 0 ? MISSING : GROWN;
        }

        /** The first part's sort comes to lie on top: its codes are the next ones. */
        private int awaitParts(int code, int open) {
            int top = open;
            for (int slot = grammar.slotsOfCode(code) - 1; slot >= 0 && top < MAX_AWAITED; slot--) {
                awaited[top] = grammar.sortOfSlot(code, slot);
                top++;
            }
            return top;
        }

        /**
         * From the last code to the first, so that a rule finds its parts laid out. Every waiting
         * symbol comes into the whole at least once: too many of them are too many in the end.
         */
        private boolean layOut(Symbols codes) {
            grown.empty();
            waiting = 0;
            for (int at = codes.length - 1; at >= 0; at--) {
                int code = codes.at(at);
                joined.empty();
                if (code < 0) {
                    joined.append(code);
                } else if (!joinParts(code)) {
                    return false;
                }
                if (!keepJoined()) {
                    return false;
                }
            }
            return true;
        }

        private boolean joinParts(int rule) {
            int slots = grammar.slotsOfCode(rule);
            if (slots > waiting) {
                return false;
            }
            for (int k = 0; k < grammar.lengthOfRule(rule); k++) {
                int slot = grammar.slotAt(rule, k);
                boolean fits = slot == Grammar.NO_SLOT
                    ? joined.append(grammar.symbolAt(rule, k))
                    : joinWaiting(waiting - 1 - slot);
                if (!fits) {
                    return false;
                }
            }
            if (slots > 0) {
                waiting -= slots;
                grown.length = starts[waiting];
            }
            return true;
        }

        private boolean joinWaiting(int tree) {
            if (tree < 0 || tree >= waiting || waiting > MAX_ROW) {
                return false;
            }
            int end = tree == waiting - 1 ? grown.length : starts[tree + 1];
            for (int at = starts[tree]; at < end; at++) {
                if (!joined.append(grown.at(at))) {
                    return false;
                }
            }
            return true;
        }

        private boolean keepJoined() {
            if (waiting >= MAX_ROW) {
                return false;
            }
            starts[waiting] = grown.length;
            waiting++;
            for (int k = 0; k < joined.length; k++) {
                if (!grown.append(joined.at(k))) {
                    return false;
                }
            }
            return true;
        }
    }

    /** How short rows of constants alone can be for each sort; at most some ten thousand symbols. */
    private static final class ShortestRows {
        private final Grammar grammar;
        private final int[] lengths;

        ShortestRows(Grammar grammar) {
            this.grammar = grammar;
            lengths = new int[MAX_SORTS];
        }

        /** A shortest row has a tree in which no sort stands in a part of itself: 6 rounds find it. */
        int lengthFor(int sort) {
            for (int other = 0; other < MAX_SORTS; other++) {
                lengths[other] = NONE;
            }
            for (int round = 0; round < MAX_SORTS; round++) {
                for (int rule = 0; rule < grammar.rules; rule++) {
                    shorten(grammar.sortOfCode(rule), lengthBy(rule));
                }
            }
            return lengthSoFar(sort);
        }

        private int lengthSoFar(int sort) {
            return sort >= 0 && sort < MAX_SORTS ? lengths[sort] : NONE;
        }

        private void shorten(int sort, int length) {
            if (sort < 0 || sort >= MAX_SORTS || length == NONE) {
                return;
            }
            if (lengths[sort] == NONE || length < lengths[sort]) {
                lengths[sort] = length;
            }
        }

        private int lengthBy(int rule) {
            int sum = 0;
            for (int k = 0; k < grammar.lengthOfRule(rule); k++) {
                int slot = grammar.slotAt(rule, k);
                int length = slot == Grammar.NO_SLOT ? 1 : lengthSoFar(grammar.sortOfSlot(rule, slot));
                if (length == NONE) {
                    return NONE;
                }
                sum += length;
            }
            return sum;
        }
    }
}
