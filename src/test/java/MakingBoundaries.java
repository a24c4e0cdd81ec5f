/**
 * The boundary cases of what is made and told again: sorts, variables, rules, the row, the tape.
 * Each one is named by the document's words and has a test of its own.
 */
public final class MakingBoundaries extends TestKit {
    private MakingBoundaries() {
    }

    /** Something of everything: a rule that is begun, a row, a tape, a latest place. */
    private static RuleTrees busy() {
        RuleTrees x = withSorts(2);
        x.variable(0);
        x.variable(1);
        x.variable(0);
        rule(x, 0, -1, 0, -3);
        rule(x, 0, -2);
        rule(x, 1, 3);
        rule(x, 1, 4);
        tape(x, 1, 2, 9);
        x.grow(0);
        tape(x, 1, 3);
        row(x, 3, 0, 4, -1);
        x.begin(1);
        x.put(5);
        x.put(-1);
        return x;
    }

    private static RuleTrees withRules(int rules) {
        RuleTrees x = withVariables(1);
        for (int k = 0; k < rules; k++) {
            rule(x, 0, k % 30);
        }
        return x;
    }

    private static RuleTrees begun(int... symbols) {
        RuleTrees x = withVariables(2);
        x.begin(0);
        for (int symbol : symbols) {
            x.put(symbol);
        }
        return x;
    }

    // Terms.

    private static void noneIs() {
        due("NONE", RuleTrees.NONE, -1);
        due("place() of a new object", new RuleTrees().place(), RuleTrees.NONE);
    }

    private static void nothingIs() {
        due("NOTHING", RuleTrees.NOTHING, -1000);
        due("symbol(0, 0) of a new object", new RuleTrees().symbol(0, 0), RuleTrees.NOTHING);
    }

    private static void numbersOfSorts() {
        RuleTrees x = new RuleTrees();
        due("the first sort()", x.sort(), 0);
        due("the first variable(0)", x.variable(0), 0);
        due("the second sort()", x.sort(), 1);
        due("the second variable(1)", x.variable(1), 1);
    }

    private static void numbersOfRules() {
        RuleTrees x = withVariables(1);
        for (int k = 0; k < 30; k++) {
            due("rule", rule(x, 0, 1), k);
        }
    }

    private static void leastAndGreatestConstant() {
        RuleTrees x = withSorts(1);
        rule(x, 0, 0);
        rule(x, 0, 29);
        row(x, 0, 29);
        due("trees of 0", x.trees(0, 0, 1), 1);
        due("trees of 29", x.trees(0, 1, 2), 1);
        due("symbol(0, 0)", x.symbol(0, 0), 0);
        due("symbol(1, 0)", x.symbol(1, 0), 29);
    }

    private static void lastVariableAsSymbol() {
        RuleTrees x = withVariables(3);
        due("token(-3)", x.token(-3), 1);
        due("token(-4)", x.token(-4), NONE);
        x.begin(0);
        due("put(-3)", x.put(-3), 1);
        due("put(-4)", x.put(-4), NONE);
        x.variable(0);
        due("token(-4) when there is variable 3", x.token(-4), 2);
        due("put(-4) when there is variable 3", x.put(-4), 2);
    }

    private static void shortestAndLongestRule() {
        RuleTrees x = withVariables(1);
        due("a rule of 1 constant", rule(x, 0, 7), 0);
        due("a rule of 1 variable", rule(x, 0, -1), 1);
        due("a rule of 8 constants", rule(x, 0, 1, 2, 3, 4, 5, 6, 7, 8), 2);
        due("a rule of 4 variables and 4 constants", rule(x, 0, -1, -1, -1, -1, 5, 6, 7, 8), 3);
        due("about(0, 1)", x.about(0, 1), 1);
        due("about(1, 1)", x.about(1, 1), 1);
        due("about(2, 1)", x.about(2, 1), 8);
        due("about(3, 1)", x.about(3, 1), 8);
    }

    private static void fourVariablesInARule() {
        RuleTrees x = withVariables(5);
        due("one that stands four times", rule(x, 0, -1, -1, -1, -1), 0);
        due("four that stand once", rule(x, 0, -1, -2, -3, -4), 1);
        due("two that stand twice", rule(x, 0, -5, -4, -5, -4), 2);
        due("about(0, 2)", x.about(0, 2), 1);
        due("about(1, 2)", x.about(1, 2), 4);
        due("about(2, 2)", x.about(2, 2), 2);
    }

    // Promise 1.

    private static void newWithoutSorts() {
        RuleTrees x = new RuleTrees();
        due("count(0)", x.count(0), 0);
        due("begin(0)", x.begin(0), 0);
        due("variable(0)", x.variable(0), NONE);
        due("trees(0, 0, 1)", x.trees(0, 0, 1), NONE);
        due("stretches(0, 0)", x.stretches(0, 0), NONE);
        due("grow(0)", x.grow(0), NONE);
        due("shortest(0)", x.shortest(0), NONE);
        due("size(0, 0)", x.size(0, 0), 0);
        due("code(0, 0, 0)", x.code(0, 0, 0), NOTHING);
    }

    private static void newWithoutVariables() {
        RuleTrees x = new RuleTrees();
        due("count(1)", x.count(1), 0);
        due("token(-1)", x.token(-1), NONE);
    }

    private static void newWithoutRules() {
        RuleTrees x = new RuleTrees();
        due("count(2)", x.count(2), 0);
        due("about(0, 0)", x.about(0, 0), NONE);
        due("symbol(0, 0)", x.symbol(0, 0), NOTHING);
        due("count(5)", x.count(5), 0);
        due("put(0)", x.put(0), NONE);
        due("close()", x.close(), NONE);
    }

    private static void newWithEmptyRow() {
        RuleTrees x = new RuleTrees();
        due("count(3)", x.count(3), 0);
        due("drop()", x.drop(), 0);
        due("token(0)", x.token(0), 1);
    }

    private static void newWithEmptyTape() {
        RuleTrees x = new RuleTrees();
        due("count(4)", x.count(4), 0);
        due("clear()", x.clear(), 0);
        due("type(0)", x.type(0), 1);
    }

    private static void newBesideAnother() {
        busy();
        RuleTrees x = new RuleTrees();
        for (int what = 0; what <= 5; what++) {
            due("count(" + what + ")", x.count(what), 0);
        }
        due("place()", x.place(), NONE);
    }

    // Promise 2.

    private static void seventhSort() {
        due("the sixth sort()", withSorts(5).sort(), 5);
        refused("a seventh sort()", NONE, () -> withSorts(6), RuleTrees::sort);
        RuleTrees x = withSorts(7);
        due("begin(5)", x.begin(5), 1);
        due("variable(6)", x.variable(6), NONE);
    }

    // Promise 3.

    private static void variableOfNoSort() {
        refused("variable(0) without sorts", NONE, RuleTrees::new, x -> x.variable(0));
        for (int sort : new int[] {2, -1, 6, LEAST_INT, GREATEST_INT}) {
            refused("variable(" + sort + ")", NONE, MakingBoundaries::busy, x -> x.variable(sort));
        }
        due("variable(1): no number is lost", variableAfterRefusal(), 3);
    }

    private static int variableAfterRefusal() {
        RuleTrees x = busy();
        x.variable(2);
        return x.variable(1);
    }

    private static RuleTrees withTwentyVariables() {
        RuleTrees x = withSorts(2);
        for (int k = 0; k < 20; k++) {
            due("variable()", x.variable(k / 19), k);
        }
        row(x, -20, -19);
        return x;
    }

    private static void variable21() {
        refused("a 21st variable(0)", NONE, MakingBoundaries::withTwentyVariables, x -> x.variable(0));
        RuleTrees x = withTwentyVariables();
        x.variable(0);
        due("token(-21)", x.token(-21), NONE);
        due("the 20th is of sort 1", x.trees(1, 0, 1), 1);
        due("the 19th is of sort 0", x.trees(0, 1, 2), 1);
    }

    // Promise 4.

    private static void beginOfNoSort() {
        refused("begin(0) without sorts", 0, RuleTrees::new, x -> x.begin(0));
        for (int sort : new int[] {1, -1, 6, LEAST_INT, GREATEST_INT}) {
            refused("begin(" + sort + ")", 0, () -> withRules(2), x -> x.begin(sort));
        }
        RuleTrees x = withRules(2);
        x.begin(1);
        due("put(0) after a begin() that was refused", x.put(0), NONE);
        due("begin(0) after a begin() that was refused", x.begin(0), 1);
    }

    private static void begin31() {
        due("begin(0) with 29 rules", withRules(29).begin(0), 1);
        refused("begin(0) with 30 rules", 0, () -> withRules(30), x -> x.begin(0));
        RuleTrees x = withRules(30);
        x.begin(0);
        due("put(0) with 30 rules", x.put(0), NONE);
        due("close() with 30 rules", x.close(), NONE);
        due("count(2)", x.count(2), 30);
        due("symbol(29, 0)", x.symbol(29, 0), 29);
    }

    private static void beginTwice() {
        refused("begin(1) behind begin(0)", 0, () -> begun(), x -> x.begin(1));
        refused("begin(0) behind put()", 0, MakingBoundaries::busy, x -> x.begin(0));
        RuleTrees x = begun(8, -2, 9);
        x.begin(1);
        due("close()", x.close(), 0);
        due("about(0, 0): the sort stays", x.about(0, 0), 0);
        due("about(0, 1): the symbols stay", x.about(0, 1), 3);
        due("begin(1) when it is closed", x.begin(1), 1);
    }

    // Promise 5.

    private static void putWithNoneBegun() {
        refused("put(0) before begin()", NONE, () -> withVariables(1), x -> x.put(0));
        refused("put(-1) behind close()", NONE, () -> withRules(1), x -> x.put(-1));
    }

    private static void putOfNoSymbol() {
        for (int symbol : new int[] {30, -4, NOTHING, LEAST_INT, GREATEST_INT}) {
            refused("put(" + symbol + ")", NONE, MakingBoundaries::busy, x -> x.put(symbol));
        }
        RuleTrees x = withSorts(1);
        x.begin(0);
        due("put(-1) without variables", x.put(-1), NONE);
        due("put(0)", x.put(0), 1);
    }

    private static void putNinth() {
        int[] eight = {1, 2, 3, -1, 5, 6, 7, 8};
        due("an eighth symbol", begun(1, 2, 3, -1, 5, 6, 7).put(8), 8);
        refused("a ninth symbol", NONE, () -> begun(eight), x -> x.put(0));
        refused("a ninth symbol that is a variable", NONE, () -> begun(eight), x -> x.put(-1));
        RuleTrees x = begun(eight);
        x.put(0);
        due("close()", x.close(), 0);
        for (int k = 0; k < 8; k++) {
            due("symbol(0, " + k + ")", x.symbol(0, k), eight[k]);
        }
        due("symbol(0, 8)", x.symbol(0, 8), NOTHING);
    }

    private static void putFifthVariable() {
        due("a fourth variable", begun(-1, -1, -2).put(-1), 4);
        refused("one that stands four times", NONE, () -> begun(-1, -1, -1, -1), x -> x.put(-1));
        refused("a new one behind four", NONE, () -> begun(-1, -1, -1, -1), x -> x.put(-2));
        refused("one behind two that stand twice", NONE, () -> begun(7, -1, -2, 7, -1, -2), x -> x.put(-2));
        RuleTrees x = begun(-1, -2, -2, -1);
        x.put(-1);
        due("a constant behind four variables", x.put(0), 5);
        due("a fifth variable behind a constant", x.put(-1), NONE);
        due("close()", x.close(), 0);
        due("about(0, 1)", x.about(0, 1), 5);
        x.begin(0);
        due("the next rule's first variable", x.put(-1), 1);
        due("a fourth variable behind four constants", begun(0, 0, 0, 0, -1, -2, -1).put(-2), 8);
    }

    // Promise 6.

    private static void closeWithNoneBegun() {
        refused("close() before begin()", NONE, () -> withVariables(1), RuleTrees::close);
        refused("close() behind close()", NONE, () -> withRules(1), RuleTrees::close);
    }

    private static void closeWithoutSymbols() {
        refused("close() behind begin()", NONE, () -> begun(), RuleTrees::close);
        RuleTrees x = begun();
        x.close();
        due("begin(1): the rule is still begun", x.begin(1), 0);
        due("put(30)", x.put(30), NONE);
        due("close() behind a put() that was refused", x.close(), NONE);
        due("put(5)", x.put(5), 1);
        due("close()", x.close(), 0);
        due("about(0, 0)", x.about(0, 0), 0);
    }

    private static void closeThirtieth() {
        RuleTrees x = withRules(29);
        due("the 30th rule", rule(x, 0, -1, 4), 29);
        due("count(2)", x.count(2), 30);
        due("symbol(29, 1)", x.symbol(29, 1), 4);
    }

    // Promise 7.

    private static void tokenOfNoSymbol() {
        for (int symbol : new int[] {30, -4, NOTHING, LEAST_INT, GREATEST_INT}) {
            refused("token(" + symbol + ")", NONE, MakingBoundaries::busy, x -> x.token(symbol));
        }
        refused("token(-1) without variables", NONE, () -> withSorts(1), x -> x.token(-1));
        due("token(0) without sorts", new RuleTrees().token(0), 1);
    }

    private static RuleTrees withRow(int length) {
        RuleTrees x = withRules(3);
        for (int k = 1; k <= length; k++) {
            due("token()", x.token(k % 4 - 1), k);
        }
        return x;
    }

    private static void thirteenthToken() {
        due("a twelfth token", withRow(11).token(29), 12);
        refused("a 13th token", NONE, () -> withRow(12), x -> x.token(1));
        refused("a 13th token that is a variable", NONE, () -> withRow(12), x -> x.token(-1));
        RuleTrees x = withRow(12);
        x.token(2);
        due("trees(0, 11, 12): the last is a variable still", x.trees(0, 11, 12), 1);
        due("size(0, 0)", x.size(0, 0), 0);
    }

    // Promise 8.

    private static void dropEmptyAndFull() {
        refused("drop() of the empty row", 0, () -> withRow(0), RuleTrees::drop);
        due("drop() of one", withRow(1).drop(), 1);
        RuleTrees x = withRow(12);
        due("drop() of the full row", x.drop(), 12);
        due("count(3)", x.count(3), 0);
        due("drop() again", x.drop(), 0);
        due("trees(0, 0, 1)", x.trees(0, 0, 1), NONE);
        due("token(1) is the first again", x.token(1), 1);
        due("trees(0, 0, 1)", x.trees(0, 0, 1), 1);
    }

    private static void dropLeavesTheRest() {
        RuleTrees x = busy();
        due("drop()", x.drop(), 4);
        int[] counts = {2, 3, 4, 0, 2, 2};
        for (int what = 0; what <= 5; what++) {
            due("count(" + what + ")", x.count(what), counts[what]);
        }
        due("place()", x.place(), 2);
    }

    // Promises 13 and 14.

    private static RuleTrees withTape(int length) {
        RuleTrees x = withVariables(1);
        rule(x, 0, -1);
        for (int k = 1; k <= length; k++) {
            due("type()", x.type(k == length ? -1 : 0), k);
        }
        return x;
    }

    private static void typeAnyInt() {
        RuleTrees x = new RuleTrees();
        int[] any = {0, -1, 29, 30, NOTHING, GREATEST_INT, LEAST_INT};
        for (int k = 0; k < any.length; k++) {
            due("type(" + any[k] + ")", x.type(any[k]), k + 1);
        }
        due("clear()", x.clear(), any.length);
    }

    private static void type201() {
        RuleTrees x = withTape(199);
        due("a 200th code", x.type(5), 200);
        refused("a 201st code", NONE, () -> withTape(200), y -> y.type(5));
        x = withTape(200);
        x.type(5);
        due("count(4)", x.count(4), 200);
        due("grow(0): no code stands behind the tree", x.grow(0), 0);
    }

    private static void clearEmptyAndFull() {
        refused("clear() of the empty tape", 0, () -> withTape(0), RuleTrees::clear);
        due("clear() of one", withTape(1).clear(), 1);
        RuleTrees x = withTape(200);
        due("clear() of the full tape", x.clear(), 200);
        due("count(4)", x.count(4), 0);
        due("clear() again", x.clear(), 0);
        due("grow(0) of the empty tape", x.grow(0), 1);
        due("type(-1) is the first again", x.type(-1), 1);
        due("grow(0)", x.grow(0), 0);
    }

    private static void clearLeavesTheRest() {
        RuleTrees x = busy();
        due("clear()", x.clear(), 2);
        int[] counts = {2, 3, 4, 4, 0, 2};
        for (int what = 0; what <= 5; what++) {
            due("count(" + what + ")", x.count(what), counts[what]);
        }
        due("place()", x.place(), 2);
    }

    // Promises 18 and 19.

    private static void aboutNoRule() {
        for (int rule : new int[] {-1, 5, 30, LEAST_INT, GREATEST_INT}) {
            for (int what = 0; what <= 2; what++) {
                due("about(" + rule + ", " + what + ")", busy().about(rule, what), NONE);
            }
        }
        due("about(4, 0) of the rule that is begun", busy().about(4, 0), NONE);
        due("about(4, 1) of the rule that is begun", busy().about(4, 1), NONE);
        due("about(0, 0) without rules", new RuleTrees().about(0, 0), NONE);
        due("about(3, 0) of the last rule", busy().about(3, 0), 1);
        due("about(29, 1) of the thirtieth rule", withRules(30).about(29, 1), 1);
        due("about(30, 1) with thirty rules", withRules(30).about(30, 1), NONE);
    }

    private static void aboutNoWhat() {
        for (int what : new int[] {-1, 3, LEAST_INT, GREATEST_INT}) {
            refused("about(0, " + what + ")", NONE, MakingBoundaries::busy, x -> x.about(0, what));
        }
    }

    private static void aboutDifferentVariables() {
        RuleTrees x = withVariables(4);
        rule(x, 0, 1, 2);
        rule(x, 0, -2, -2, -2, -2);
        rule(x, 0, -4, -3, -2, -1);
        rule(x, 0, -1, 5, -2, -1);
        due("none", x.about(0, 2), 0);
        due("one that stands four times", x.about(1, 2), 1);
        due("four", x.about(2, 2), 4);
        due("two of three", x.about(3, 2), 2);
    }

    private static void symbolOfNoRule() {
        for (int rule : new int[] {-1, 5, 30, LEAST_INT, GREATEST_INT}) {
            due("symbol(" + rule + ", 0)", busy().symbol(rule, 0), NOTHING);
        }
        due("symbol(4, 0) of the rule that is begun", busy().symbol(4, 0), NOTHING);
        due("symbol(0, 0) without rules", new RuleTrees().symbol(0, 0), NOTHING);
        due("symbol(29, 0) of the thirtieth rule", withRules(30).symbol(29, 0), 29);
        due("symbol(30, 0) with thirty rules", withRules(30).symbol(30, 0), NOTHING);
    }

    private static void symbolAtNoPlace() {
        RuleTrees x = withVariables(1);
        rule(x, 0, 1, 2, 3, 4, 5, 6, 7, 8);
        rule(x, 0, -1);
        for (int k : new int[] {-1, 8, LEAST_INT, GREATEST_INT}) {
            due("symbol(0, " + k + ")", x.symbol(0, k), NOTHING);
        }
        due("symbol(0, 0)", x.symbol(0, 0), 1);
        due("symbol(0, 7)", x.symbol(0, 7), 8);
        due("symbol(1, 0)", x.symbol(1, 0), -1);
        due("symbol(1, 1)", x.symbol(1, 1), NOTHING);
        due("symbol(1, -1): the rule before ends there", x.symbol(1, -1), NOTHING);
    }

    // Promise 20.

    private static void countAtTheLimits() {
        RuleTrees x = withSorts(6);
        due("count(0)", x.count(0), 6);
        due("count(1)", withTwentyVariables().count(1), 20);
        due("count(2)", withRules(30).count(2), 30);
        due("count(3)", withRow(12).count(3), 12);
        due("count(4)", withTape(200).count(4), 200);
        due("count(5)", begun(1, 2, 3, 4, 5, 6, 7, 8).count(5), 8);
    }

    private static void countWithoutBegunRule() {
        due("count(5) of a rule without symbols", begun().count(5), 0);
        due("count(5) before begin()", withVariables(1).count(5), 0);
        RuleTrees x = begun(1, 2, 3);
        due("count(2): a rule that is begun is none yet", x.count(2), 0);
        x.close();
        due("count(5) behind close()", x.count(5), 0);
        due("count(2) behind close()", x.count(2), 1);
        x.begin(0);
        due("count(5) of the next rule", x.count(5), 0);
        due("count(5) with thirty rules", withRules(30).count(5), 0);
    }

    private static void countOfOthers() {
        for (int what : new int[] {-1, 6, LEAST_INT, GREATEST_INT}) {
            refused("count(" + what + ")", NONE, MakingBoundaries::busy, x -> x.count(what));
        }
    }

    public static void main(String[] args) {
        sentence("Terms", "`NONE = -1`: There is none, or nothing is done.", MakingBoundaries::noneIs);
        sentence("Terms", "`NOTHING = -1000`: No such symbol or code.", MakingBoundaries::nothingIs);
        sentence("Terms", "both are numbered from 0", MakingBoundaries::numbersOfSorts);
        sentence("Terms", "A SYMBOL is a constant, 0 to 29", MakingBoundaries::leastAndGreatestConstant);
        sentence("Terms", "or -1 - v for variable v", MakingBoundaries::lastVariableAsSymbol);
        sentence("Terms", "A RULE, at most 30, numbered from 0", MakingBoundaries::numbersOfRules);
        sentence("Terms", "has a sort and 1 to 8 symbols", MakingBoundaries::shortestAndLongestRule);
        sentence("Terms", "at most 4 of them variables (counted as often as they stand there)",
            MakingBoundaries::fourVariablesInARule);
        sentence("Promise 1", "No sorts", MakingBoundaries::newWithoutSorts);
        sentence("Promise 1", "variables", MakingBoundaries::newWithoutVariables);
        sentence("Promise 1", "rules", MakingBoundaries::newWithoutRules);
        sentence("Promise 1", "an empty row", MakingBoundaries::newWithEmptyRow);
        sentence("Promise 1", "an empty tape", MakingBoundaries::newWithEmptyTape);
        sentence("Promise 1", "A new object", MakingBoundaries::newBesideAnother);
        sentence("Promise 2", "NONE when there are 6", MakingBoundaries::seventhSort);
        sentence("Promise 3", "NONE when there is no such sort", MakingBoundaries::variableOfNoSort);
        sentence("Promise 3", "or there are 20", MakingBoundaries::variable21);
        sentence("Promise 4", "0, and nothing is done, when there is no such sort", MakingBoundaries::beginOfNoSort);
        sentence("Promise 4", "there are 30", MakingBoundaries::begin31);
        sentence("Promise 4", "or one is begun", MakingBoundaries::beginTwice);
        sentence("Promise 5", "NONE when none is begun", MakingBoundaries::putWithNoneBegun);
        sentence("Promise 5", "there is no such symbol", MakingBoundaries::putOfNoSymbol);
        sentence("Promise 5", "it has 8", MakingBoundaries::putNinth);
        sentence("Promise 5", "or it would have a fifth variable", MakingBoundaries::putFifthVariable);
        sentence("Promise 6", "NONE when none is begun", MakingBoundaries::closeWithNoneBegun);
        sentence("Promise 6", "or it has no symbols", MakingBoundaries::closeWithoutSymbols);
        sentence("Promise 6", "The rule that is begun is one: its number", MakingBoundaries::closeThirtieth);
        sentence("Promise 7", "NONE when there is no such symbol", MakingBoundaries::tokenOfNoSymbol);
        sentence("Promise 7", "or it has 12", MakingBoundaries::thirteenthToken);
        sentence("Promise 8", "how many symbols it had", MakingBoundaries::dropEmptyAndFull);
        sentence("Promise 8", "The row is empty", MakingBoundaries::dropLeavesTheRest);
        sentence("Promise 13", "any int", MakingBoundaries::typeAnyInt);
        sentence("Promise 13", "NONE when it has 200", MakingBoundaries::type201);
        sentence("Promise 14", "how many codes it had", MakingBoundaries::clearEmptyAndFull);
        sentence("Promise 14", "The tape is empty", MakingBoundaries::clearLeavesTheRest);
        sentence("Promise 18", "NONE when there is none such", MakingBoundaries::aboutNoRule);
        sentence("Promise 18", "Of a rule its sort (what 0), how many symbols it has (1)",
            MakingBoundaries::aboutNoWhat);
        sentence("Promise 18", "different variables (2)", MakingBoundaries::aboutDifferentVariables);
        sentence("Promise 19", "NOTHING when there is none such", MakingBoundaries::symbolOfNoRule);
        sentence("Promise 19", "Symbol k of a rule", MakingBoundaries::symbolAtNoPlace);
        sentence("Promise 20", "How many sorts (what 0), variables (1), rules (2)", MakingBoundaries::countAtTheLimits);
        sentence("Promise 20", "symbols in the rule that is begun (5)", MakingBoundaries::countWithoutBegunRule);
        sentence("Promise 20", "NONE for others", MakingBoundaries::countOfOthers);
        end();
    }
}
