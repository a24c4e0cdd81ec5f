import java.util.Arrays;

/** For each promise of the document: ordinary inputs, the edges that it names, and wrong inputs. */
public final class PromiseTests extends TestKit {
    private PromiseTests() {
    }

    private static void newObject() {
        of("promise 1");
        RuleTrees x = new RuleTrees();
        for (int what = 0; what <= 5; what++) {
            due("count(" + what + ")", x.count(what), 0);
        }
        due("place()", x.place(), NONE);
        due("check()", x.check(), 1);
        due("drop()", x.drop(), 0);
        due("clear()", x.clear(), 0);
        due("close()", x.close(), NONE);
        due("trees(0, 0, 1)", x.trees(0, 0, 1), NONE);
        due("grow(0)", x.grow(0), NONE);
        due("shortest(0)", x.shortest(0), NONE);
    }

    private static void sorts() {
        of("promise 2");
        RuleTrees x = new RuleTrees();
        for (int k = 0; k < 6; k++) {
            due("sort()", x.sort(), k);
        }
        due("a seventh sort()", x.sort(), NONE);
        due("count(0)", x.count(0), 6);
        // A sort that comes late finds the row already there.
        x = withSorts(1);
        x.variable(0);
        row(x, -1, -1);
        due("trees(0, 0, 1)", x.trees(0, 0, 1), 1);
        due("sort()", x.sort(), 1);
        due("trees(1, 0, 1)", x.trees(1, 0, 1), 0);
        due("stretches(1, 0)", x.stretches(1, 0), 3);
    }

    private static void variables() {
        of("promise 3");
        RuleTrees x = new RuleTrees();
        due("variable(0) without sorts", x.variable(0), NONE);
        x.sort();
        x.sort();
        for (int sort : new int[] {-1, 2, Integer.MIN_VALUE, Integer.MAX_VALUE}) {
            due("variable(" + sort + ")", x.variable(sort), NONE);
        }
        for (int k = 0; k < 20; k++) {
            due("variable()", x.variable(k % 2), k);
        }
        due("a 21st variable()", x.variable(0), NONE);
        due("count(1)", x.count(1), 20);
        row(x, -1, -2, -19, -20);
        due("sort of variable 0", x.trees(0, 0, 1), 1);
        due("sort of variable 1", x.trees(1, 1, 2), 1);
        due("sort of variable 18", x.trees(0, 2, 3), 1);
        due("sort of variable 19", x.trees(0, 3, 4), 0);
    }

    private static void begins() {
        of("promise 4");
        RuleTrees x = new RuleTrees();
        due("begin(0) without sorts", x.begin(0), 0);
        x.sort();
        for (int sort : WRONG) {
            due("begin(" + sort + ")", x.begin(sort), 0);
        }
        due("count(5)", x.count(5), 0);
        due("put(0)", x.put(0), NONE);
        due("begin(0)", x.begin(0), 1);
        due("put(3)", x.put(3), 1);
        due("begin(0) again", x.begin(0), 0);
        due("count(5)", x.count(5), 1);
        due("close()", x.close(), 0);
        for (int k = 1; k < 30; k++) {
            due("rule", rule(x, 0, k % 3), k);
        }
        due("begin(0) with 30 rules", x.begin(0), 0);
        due("put(0) with 30 rules", x.put(0), NONE);
        due("count(2)", x.count(2), 30);
        due("count(5)", x.count(5), 0);
    }

    private static void puts() {
        of("promise 5");
        RuleTrees x = withSorts(1);
        due("put(0) with none begun", x.put(0), NONE);
        x.begin(0);
        due("put(-1) without variables", x.put(-1), NONE);
        x.variable(0);
        x.variable(0);
        for (int symbol : new int[] {30, -3, 31, -1000, Integer.MIN_VALUE, Integer.MAX_VALUE}) {
            due("put(" + symbol + ")", x.put(symbol), NONE);
        }
        due("count(5)", x.count(5), 0);
        due("put(29)", x.put(29), 1);
        due("put(-1)", x.put(-1), 2);
        due("put(-1)", x.put(-1), 3);
        due("put(-2)", x.put(-2), 4);
        due("put(-1)", x.put(-1), 5);
        due("a fifth variable that stands there", x.put(-1), NONE);
        due("a fifth variable that is new", x.put(-2), NONE);
        due("put(0)", x.put(0), 6);
        due("put(0)", x.put(0), 7);
        due("put(0)", x.put(0), 8);
        due("a ninth symbol", x.put(0), NONE);
        due("close()", x.close(), 0);
        int[] symbols = {29, -1, -1, -2, -1, 0, 0, 0};
        for (int k = 0; k < symbols.length; k++) {
            due("symbol(0, " + k + ")", x.symbol(0, k), symbols[k]);
        }
        due("the next rule counts its variables anew", rule(x, 0, -1, -1, -2, -2), 1);
    }

    private static void closes() {
        of("promise 6");
        RuleTrees x = withSorts(2);
        due("close() with none begun", x.close(), NONE);
        x.begin(1);
        due("close() without symbols", x.close(), NONE);
        due("begin(0): the empty one is still begun", x.begin(0), 0);
        x.put(4);
        due("about(0, 0) before close()", x.about(0, 0), NONE);
        due("count(2) before close()", x.count(2), 0);
        row(x, 4);
        due("trees(1, 0, 1) before close()", x.trees(1, 0, 1), 0);
        due("close()", x.close(), 0);
        due("trees(1, 0, 1) after close()", x.trees(1, 0, 1), 1);
        due("close() again", x.close(), NONE);
        due("count(5)", x.count(5), 0);
        due("rule", rule(x, 0, 1), 1);
        due("about(0, 0)", x.about(0, 0), 1);
    }

    private static void tokens() {
        of("promise 7");
        RuleTrees x = withSorts(1);
        due("token(-1) without variables", x.token(-1), NONE);
        x.variable(0);
        for (int symbol : new int[] {30, -2, Integer.MIN_VALUE, Integer.MAX_VALUE}) {
            due("token(" + symbol + ")", x.token(symbol), NONE);
        }
        due("count(3)", x.count(3), 0);
        for (int k = 1; k <= 12; k++) {
            due("token()", x.token(k % 2 == 0 ? -1 : 29), k);
        }
        due("a 13th token()", x.token(0), NONE);
        due("count(3)", x.count(3), 12);
        due("trees(0, 0, 1)", x.trees(0, 0, 1), 0);
        due("trees(0, 1, 2)", x.trees(0, 1, 2), 1);
        due("trees(0, 11, 12)", x.trees(0, 11, 12), 1);
    }

    private static void drops() {
        of("promise 8");
        RuleTrees x = withSorts(1);
        rule(x, 0, 1);
        row(x, 1, 2, 3);
        due("trees(0, 0, 1)", x.trees(0, 0, 1), 1);
        due("drop()", x.drop(), 3);
        due("count(3)", x.count(3), 0);
        due("drop() again", x.drop(), 0);
        due("trees(0, 0, 1)", x.trees(0, 0, 1), NONE);
        due("size(0, 0)", x.size(0, 0), 0);
        row(x, 2, 1);
        due("trees(0, 0, 1) of the new row", x.trees(0, 0, 1), 0);
        due("trees(0, 1, 2) of the new row", x.trees(0, 1, 2), 1);
    }

    private static void countsOfTrees() {
        of("promise 9");
        RuleTrees x = pairs();
        row(x, 0, 0, 0, 0, 0, 0, 0, 0, 0, 0, 0, 0);
        int[] catalan = {1, 1, 2, 5, 14, 42, 132, 429, 1430, 4862, 16796, 58786};
        for (int n = 1; n <= 12; n++) {
            due("trees(0, 0, " + n + ")", x.trees(0, 0, n), catalan[n - 1]);
            due("trees(0, " + (12 - n) + ", 12)", x.trees(0, 12 - n, 12), catalan[n - 1]);
        }
        due("trees(0, 0, 0)", x.trees(0, 0, 0), NONE);
        due("trees(0, 5, 5)", x.trees(0, 5, 5), NONE);
        due("trees(0, 6, 5)", x.trees(0, 6, 5), NONE);
        due("trees(0, 0, 13)", x.trees(0, 0, 13), NONE);
        due("trees(0, -1, 5)", x.trees(0, -1, 5), NONE);
        due("trees(0, min, max)", x.trees(0, Integer.MIN_VALUE, Integer.MAX_VALUE), NONE);
        due("trees(1, 0, 1)", x.trees(1, 0, 1), NONE);
        due("trees(-1, 0, 1)", x.trees(-1, 0, 1), NONE);
        limitOfTrees();
        endlessTrees();
        repeatedVariables();
    }

    /** Ten leaves to choose from at each of six places: 10 to the 6th is still told. */
    private static void limitOfTrees() {
        RuleTrees x = withSorts(3);
        x.variable(0);
        x.variable(0);
        x.variable(0);
        x.variable(1);
        for (int k = 0; k < 10; k++) {
            rule(x, 0, 7);
        }
        rule(x, 1, -1, -2, -3);
        x.variable(1);
        rule(x, 2, -4, -5);
        row(x, 7, 7, 7, 7, 7, 7);
        due("10 * 10 * 10", x.trees(1, 0, 3), 1000);
        due("a million", x.trees(2, 0, 6), 1000000);
        rule(x, 2, 7, 7, 7, 7, 7, 7);
        due("a million and one", x.trees(2, 0, 6), RuleTrees.MANY);
        due("stretches(2, 2)", x.stretches(2, 2), 1);
        due("stretches(2, 0)", x.stretches(2, 0), 20);
        int u = -1 - x.variable(2);
        int v = -1 - x.variable(2);
        rule(x, 2, u, v);
        row(x, 7, 7, 7, 7, 7, 7, 7, 7, 7, 7, 7, 7);
        due("many times many", x.trees(2, 0, 12), RuleTrees.MANY);
        due("many times none", x.trees(2, 0, 11), 0);
    }

    private static void endlessTrees() {
        RuleTrees x = withSorts(4);
        for (int sort = 0; sort < 4; sort++) {
            x.variable(sort);
        }
        x.variable(0);
        rule(x, 0, -2);
        rule(x, 1, -1);
        row(x, 5, 5);
        due("a round without trees", x.trees(0, 0, 1), 0);
        rule(x, 2, -1);
        rule(x, 3, 5);
        due("a sort that the round does not reach", x.trees(3, 0, 1), 1);
        rule(x, 1, 5);
        due("in the round", x.trees(0, 0, 1), RuleTrees.ENDLESS);
        due("in the round", x.trees(1, 0, 1), RuleTrees.ENDLESS);
        due("above the round", x.trees(2, 0, 1), RuleTrees.ENDLESS);
        due("beside the round", x.trees(3, 0, 1), 1);
        rule(x, 3, -1, -5);
        due("parts that have endless many", x.trees(3, 0, 2), RuleTrees.ENDLESS);
        rule(x, 3, -1, 6);
        row(x, 5, 6);
        due("a part that has endless many", x.trees(3, 0, 2), RuleTrees.ENDLESS);
        row(x, 6, 5);
        due("an endless part beside one without trees", x.trees(3, 0, 2), 0);
        x = withSorts(3);
        x.variable(0);
        x.variable(1);
        x.variable(2);
        rule(x, 2, -3);
        rule(x, 1, -3);
        rule(x, 0, -2);
        row(x, -3, -2);
        due("two steps above a round", x.trees(0, 0, 1), RuleTrees.ENDLESS);
        due("one step above a round", x.trees(1, 0, 1), RuleTrees.ENDLESS);
        due("above a round without trees", x.trees(0, 1, 2), 1);
        x = withSorts(1);
        x.variable(0);
        rule(x, 0, -1);
        row(x, -1);
        due("a sort of itself over a leaf", x.trees(0, 0, 1), RuleTrees.ENDLESS);
    }

    private static void repeatedVariables() {
        RuleTrees x = withSorts(1);
        x.variable(0);
        x.variable(0);
        rule(x, 0, -1, 9, -1);
        rule(x, 0, 1);
        rule(x, 0, 1);
        rule(x, 0, 2);
        row(x, 1, 9, 1);
        due("one tree for a variable that stands twice", x.trees(0, 0, 3), 2);
        row(x, 1, 9, 2);
        due("other symbols", x.trees(0, 0, 3), 0);
        row(x, 1, 9, 1, 9, 1, 9, 1);
        due("1 9 1 in it twice", x.trees(0, 0, 7), 2);
        rule(x, 0, -1, -2, -1, -2);
        row(x, 1, 2, 1, 2);
        due("two that stand twice", x.trees(0, 0, 4), 2);
        row(x, 1, 2, 2, 1);
        due("two that stand twice, crossed", x.trees(0, 0, 4), 0);
    }

    private static void sizesAndCodes() {
        of("promise 10");
        RuleTrees x = pairs();
        x.sort();
        due("size(0, 0) of the empty row", x.size(0, 0), 0);
        row(x, 0, 0, 0);
        due("size(0, 0)", x.size(0, 0), 5);
        due("size(0, 1)", x.size(0, 1), 5);
        due("size(1, 0)", x.size(1, 0), 0);
        for (int bad : WRONG) {
            due("size(" + bad + ", 0)", x.size(bad, 0), 0);
            due("size(0, " + bad + ")", x.size(0, bad), 0);
        }
        due("size(0, 2)", x.size(0, 2), 0);
        row(x, 0, 0);
        due("size(0, 0) of an only tree", x.size(0, 0), 3);
        due("size(0, 1) of an only tree", x.size(0, 1), 0);
        rule(x, 0, 0, 0);
        due("size(0, 0) of a less tree", x.size(0, 0), 1);
        due("size(0, 1) of the other", x.size(0, 1), 3);
        row(x, 0, 1);
        due("size(0, 0) without trees", x.size(0, 0), 0);
        of("promise 11");
        codesOfTrees();
        codesInOrder();
        codesOfRounds();
    }

    private static void codesOfTrees() {
        RuleTrees x = pairs();
        due("code(0, 0, 0) of the empty row", x.code(0, 0, 0), NOTHING);
        row(x, 0, 0, 0);
        dueCodes("the least", codes(x, 0, 0), 0, 0, 1, 1, 1);
        dueCodes("the next", codes(x, 0, 1), 0, 1, 0, 1, 1);
        for (int bad : WRONG) {
            due("code(" + bad + ", 0, 0)", x.code(bad, 0, 0), NOTHING);
            due("code(0, " + bad + ", 0)", x.code(0, bad, 0), NOTHING);
            due("code(0, 0, " + bad + ")", x.code(0, 0, bad), NOTHING);
        }
        due("code(0, 2, 0)", x.code(0, 2, 0), NOTHING);
        row(x, -2, -1);
        dueCodes("leaves", codes(x, 0, 0), 0, -2, -1);
        row(x, -2);
        dueCodes("a leaf", codes(x, 0, 0), -2);
        dueCodes("behind a leaf", codes(x, 0, 1));
        // Code order is that of the variables' first places in the rule, not of their numbers.
        x = withSorts(2);
        x.variable(0);
        x.variable(1);
        rule(x, 0, -2, 8, -1, -2);
        rule(x, 0, 1);
        rule(x, 1, 2);
        row(x, 2, 8, 1, 2);
        dueCodes("by first places", codes(x, 0, 0), 0, 2, 1);
    }

    private static void codesInOrder() {
        // A leaf is less than any rule of its size, and a later variable less than an earlier one.
        RuleTrees x = withSorts(2);
        x.variable(0);
        x.variable(1);
        x.variable(1);
        x.variable(1);
        rule(x, 0, -2, -3, -4);
        rule(x, 1, -2, -3);
        row(x, -2, -3, -4, -2);
        dueCodes("the least of three", codes(x, 0, 0), 0, -2, -3, 1, -4, -2);
        dueCodes("the next of three", codes(x, 0, 1), 0, -2, 1, -3, -4, -2);
        // Size before codes: a rule with a great number and few parts comes first.
        x = pairs();
        x.variable(0);
        rule(x, 0, -1, -2, -3);
        row(x, 0, 0, 0);
        dueCodes("less size", codes(x, 0, 0), 2, 1, 1, 1);
        dueCodes("then less code", codes(x, 0, 1), 0, 0, 1, 1, 1);
        // The next tree may have its difference in any part.
        x = withSorts(2);
        x.variable(0);
        x.variable(0);
        rule(x, 1, -1, -2);
        rule(x, 0, 3);
        rule(x, 0, 4);
        rule(x, 0, 4);
        rule(x, 0, 3);
        row(x, 3, 4);
        dueCodes("both least", codes(x, 1, 0), 0, 1, 2);
        dueCodes("the last part is another", codes(x, 1, 1), 0, 1, 3);
        row(x, 4, 4);
        dueCodes("both least", codes(x, 1, 0), 0, 2, 2);
        dueCodes("the last part is another", codes(x, 1, 1), 0, 2, 3);
        rule(x, 1, -1, -1);
        dueCodes("a part that stands twice is told once", codes(x, 1, 0), 5, 2);
        dueCodes("and is another in both places", codes(x, 1, 1), 5, 3);
    }

    private static void codesOfRounds() {
        RuleTrees x = withSorts(6);
        for (int sort = 0; sort < 6; sort++) {
            x.variable(sort);
        }
        for (int sort = 0; sort < 6; sort++) {
            rule(x, sort, -1 - (sort + 1) % 6);
        }
        row(x, -6);
        dueCodes("down the chain", codes(x, 0, 0), 0, 1, 2, 3, 4, -6);
        dueCodes("once around", codes(x, 0, 1), 0, 1, 2, 3, 4, 5, 0, 1, 2, 3, 4, -6);
        due("check()", x.check(), 1);
        longestTrees();
    }

    /** A row of 12 whose every part comes by a chain through all sorts: 138 codes, and 6 around. */
    private static void longestTrees() {
        RuleTrees x = withSorts(6);
        for (int sort = 0; sort < 6; sort++) {
            x.variable(sort);
        }
        x.variable(0);
        for (int sort = 0; sort < 6; sort++) {
            rule(x, sort, -1 - (sort + 1) % 6);
        }
        rule(x, 5, -1, -7);
        rule(x, 5, 0);
        row(x, 0, 0, 0, 0, 0, 0, 0, 0, 0, 0, 0, 0);
        due("size(0, 0)", x.size(0, 0), 138);
        due("size(0, 1)", x.size(0, 1), 138);
        due("check()", x.check(), 1);
        x = withSorts(6);
        for (int sort = 0; sort < 6; sort++) {
            x.variable(sort);
        }
        x.variable(0);
        for (int sort = 0; sort < 6; sort++) {
            rule(x, sort, -1 - (sort + 1) % 6);
        }
        rule(x, 5, -1, 1, -7);
        rule(x, 5, 0);
        row(x, 0, 1, 0);
        due("size(0, 0) of an only way", x.size(0, 0), 18);
        due("size(0, 1) once around", x.size(0, 1), 24);
        dueCodes("the round is as far in front as it can be", codes(x, 0, 1),
            0, 1, 2, 3, 4, 5, 0, 1, 2, 3, 4, 6, 0, 1, 2, 3, 4, 7, 0, 1, 2, 3, 4, 7);
        due("check()", x.check(), 1);
    }

    private static void stretchKinds() {
        of("promise 12");
        RuleTrees x = pairs();
        for (int what = 0; what <= 3; what++) {
            due("stretches(0, " + what + ") of the empty row", x.stretches(0, what), 0);
        }
        x.sort();
        row(x, 0, 0, 0, 1);
        due("stretches(0, 0)", x.stretches(0, 0), 4);
        due("stretches(0, 1)", x.stretches(0, 1), 5);
        due("stretches(0, 2)", x.stretches(0, 2), 1);
        due("stretches(0, 3)", x.stretches(0, 3), 0);
        due("stretches(1, 0)", x.stretches(1, 0), 10);
        due("stretches(0, 4)", x.stretches(0, 4), NONE);
        for (int bad : WRONG) {
            due("stretches(0, " + bad + ")", x.stretches(0, bad), NONE);
            due("stretches(" + bad + ", 0)", x.stretches(bad, 0), NONE);
        }
        rule(x, 0, -1);
        due("stretches(0, 0)", x.stretches(0, 0), 4);
        due("stretches(0, 1)", x.stretches(0, 1), 0);
        due("stretches(0, 2)", x.stretches(0, 2), 0);
        due("stretches(0, 3)", x.stretches(0, 3), 6);
    }

    private static void tapes() {
        of("promise 13");
        RuleTrees x = new RuleTrees();
        for (int k = 1; k <= 200; k++) {
            due("type()", x.type(k % 2 == 0 ? Integer.MIN_VALUE : Integer.MAX_VALUE), k);
        }
        due("a 201st type()", x.type(0), NONE);
        due("count(4)", x.count(4), 200);
        of("promise 14");
        due("clear()", x.clear(), 200);
        due("count(4)", x.count(4), 0);
        due("clear() again", x.clear(), 0);
        due("type()", x.type(5), 1);
    }

    private static void grows() {
        of("promise 15");
        RuleTrees x = items();
        tape(x, 0, 1, 2, 3, -3);
        due("grow(0)", x.grow(0), 0);
        due("count(3)", x.count(3), 5);
        dueCodes("the least tree of the row that grew", codes(x, 0, 0), 0, 1, 2, 3, -3);
        due("trees(0, 0, 3) of the row that grew", x.trees(0, 0, 3), 1);
        due("count(4): the tape stays", x.count(4), 5);
        for (int bad : WRONG) {
            due("grow(" + bad + ")", x.grow(bad), NONE);
        }
        due("count(3)", x.count(3), 5);
        tape(x, -2);
        due("grow(1) of a leaf", x.grow(1), 0);
        due("count(3)", x.count(3), 1);
        due("the row is the leaf", x.trees(1, 0, 1), 1);
        faultsOfGrowing();
        lengthsOfGrowing();
    }

    private static void fault(RuleTrees x, int sort, int verdict, int place, int... codes) {
        int length = x.count(3);
        tape(x, codes);
        String of = " of " + Arrays.toString(codes);
        of("promise 15");
        due("grow(" + sort + ")" + of, x.grow(sort), verdict);
        due("count(3)" + of, x.count(3), length);
        of("promise 16");
        due("place()" + of, x.place(), place);
        due("grow(6)" + of, x.grow(6), NONE);
        due("place() stays" + of, x.place(), place);
    }

    private static void faultsOfGrowing() {
        RuleTrees x = items();
        due("place() before any grow()", x.place(), NONE);
        fault(x, 0, 1, 0);
        fault(x, 0, 1, 1, 0);
        fault(x, 0, 1, 3, 0, 2, 3);
        fault(x, 0, 2, 0, 5);
        fault(x, 0, 2, 0, -4);
        fault(x, 0, 2, 1, 1, Integer.MIN_VALUE);
        fault(x, 0, 2, 1, 1, Integer.MAX_VALUE);
        fault(x, 0, 3, 0, 3);
        fault(x, 0, 3, 0, -2);
        fault(x, 1, 3, 0, -1);
        fault(x, 0, 3, 2, 0, 2, -1);
        fault(x, 0, 3, 2, 0, -1, 4, 99);
        fault(x, 0, 4, 1, -1, -1);
        fault(x, 0, 4, 3, 1, 2, 3, 77);
        fault(x, 0, 4, 5, 0, -1, 0, -1, -1, 9, 9, 9);
        // A rule that is only begun is none yet.
        x.begin(0);
        x.put(9);
        fault(x, 0, 2, 0, 5);
        x.close();
        of("promise 15");
        due("grow(0) when it is closed", x.grow(0), 0);
        due("count(3)", x.count(3), 1);
        of("promise 16");
        due("place() after 0", x.place(), NONE);
        x.type(5);
        x.grow(0);
        due("place() after 4", x.place(), 1);
    }

    private static void lengthsOfGrowing() {
        of("promise 15");
        RuleTrees x = withSorts(1);
        x.variable(0);
        x.variable(0);
        rule(x, 0, -1, -1);
        rule(x, 0, 1, 1, 1);
        rule(x, 0, -1, -2, -2, -1);
        tape(x, 0, 0, 1);
        due("12 symbols", x.grow(0), 0);
        due("count(3)", x.count(3), 12);
        due("trees(0, 0, 12)", x.trees(0, 0, 12), 2);
        tape(x, 2, -1, 0, 0, -2);
        due("10 symbols", x.grow(0), 0);
        due("count(3)", x.count(3), 10);
        due("the tree of them", x.size(0, 0), 5);
        fault(x, 0, 5, NONE, 0, 0, 0, 1);
        fault(x, 0, 5, NONE, 0, 0, 0, 0, -1);
        fault(x, 0, 5, NONE, 2, 1, 0, 0, -1);
        fault(x, 0, 4, 5, 0, 0, 0, 0, -1, 1);
        of("promise 15");
        x.clear();
        for (int k = 0; k < 199; k++) {
            x.type(0);
        }
        due("199 rules without an end", x.grow(0), 1);
        x.type(-1);
        due("2 to the 199th symbols", x.grow(0), 5);
        x = withSorts(1);
        for (int k = 0; k < 4; k++) {
            x.variable(0);
        }
        rule(x, 0, -1, -2, -3, -4);
        for (int k = 0; k < 200; k++) {
            x.type(0);
        }
        due("200 rules that await 601 trees", x.grow(0), 1);
        of("promise 16");
        due("place()", x.place(), 200);
    }

    private static void shortestRows() {
        of("promise 17");
        RuleTrees x = new RuleTrees();
        due("shortest(0) without sorts", x.shortest(0), NONE);
        for (int sort = 0; sort < 6; sort++) {
            x.sort();
            x.variable(sort);
        }
        due("shortest(0) without rules", x.shortest(0), NONE);
        for (int sort = 0; sort < 5; sort++) {
            int part = -2 - sort;
            rule(x, sort, part, 0, part, 0, part, 0, part, 0);
        }
        due("shortest(0): a leaf is no constant", x.shortest(0), NONE);
        rule(x, 5, 1, 1, 1, 1, 1, 1, 1, 1);
        int[] longest = {9556, 2388, 596, 148, 36, 8};
        for (int sort = 0; sort < 6; sort++) {
            due("shortest(" + sort + ")", x.shortest(sort), longest[sort]);
        }
        rule(x, 1, -1);
        due("shortest(1) with a round", x.shortest(1), 2388);
        rule(x, 3, -6, -6);
        due("shortest(3)", x.shortest(3), 16);
        due("shortest(2)", x.shortest(2), 68);
        rule(x, 5, 1);
        due("shortest(5)", x.shortest(5), 1);
        due("shortest(3)", x.shortest(3), 2);
        due("shortest(4)", x.shortest(4), 8);
        for (int bad : WRONG) {
            due("shortest(" + bad + ")", x.shortest(bad), NONE);
        }
        due("count(3): the row stays", x.count(3), 0);
    }

    private static void rulesTold() {
        of("promise 18");
        RuleTrees x = withSorts(3);
        x.variable(1);
        x.variable(2);
        rule(x, 2, 4, -2, 5, -1, -2);
        rule(x, 0, 6);
        due("about(0, 0)", x.about(0, 0), 2);
        due("about(0, 1)", x.about(0, 1), 5);
        due("about(0, 2)", x.about(0, 2), 2);
        due("about(1, 0)", x.about(1, 0), 0);
        due("about(1, 1)", x.about(1, 1), 1);
        due("about(1, 2)", x.about(1, 2), 0);
        due("about(0, 3)", x.about(0, 3), NONE);
        x.begin(1);
        x.put(7);
        due("about(2, 0) of the rule that is begun", x.about(2, 0), NONE);
        for (int bad : WRONG) {
            due("about(" + bad + ", 0)", x.about(bad, 0), NONE);
            due("about(0, " + bad + ")", x.about(0, bad), NONE);
        }
        of("promise 19");
        int[] symbols = {4, -2, 5, -1, -2};
        for (int k = 0; k < symbols.length; k++) {
            due("symbol(0, " + k + ")", x.symbol(0, k), symbols[k]);
        }
        due("symbol(0, 5)", x.symbol(0, 5), NOTHING);
        due("symbol(1, 0)", x.symbol(1, 0), 6);
        due("symbol(1, 1)", x.symbol(1, 1), NOTHING);
        due("symbol(2, 0) of the rule that is begun", x.symbol(2, 0), NOTHING);
        for (int bad : WRONG) {
            due("symbol(" + bad + ", 0)", x.symbol(bad, 0), NOTHING);
            due("symbol(0, " + bad + ")", x.symbol(0, bad), NOTHING);
        }
    }

    private static void counts() {
        of("promise 20");
        RuleTrees x = withSorts(2);
        x.variable(0);
        x.variable(0);
        x.variable(1);
        rule(x, 0, 1);
        rule(x, 0, 1);
        rule(x, 0, 1);
        rule(x, 0, 1);
        row(x, 1, 1, 1, 1, 1);
        tape(x, 1, 1, 1, 1, 1, 1);
        x.begin(0);
        for (int k = 0; k < 7; k++) {
            x.put(k);
        }
        for (int what = 0; what <= 5; what++) {
            due("count(" + what + ")", x.count(what), what + 2);
        }
        for (int bad : WRONG) {
            due("count(" + bad + ")", x.count(bad), NONE);
        }
    }

    private static void checks() {
        of("promise 21");
        RuleTrees x = items();
        due("check() of the empty row", x.check(), 1);
        tape(x, 0, 1, 2, 3, -3);
        x.grow(0);
        due("check() of an only tree", x.check(), 1);
        tape(x, 9, 9);
        x.grow(0);
        due("place()", x.place(), 0);
        due("check()", x.check(), 1);
        due("place(): check() is no grow()", x.place(), 0);
        due("count(3): check() leaves the row", x.count(3), 5);
        due("count(4): check() leaves the tape", x.count(4), 2);
        tape(x, 0, 0, -1, -1, -3);
        due("grow(0)", x.grow(0), 0);
        due("check() of two trees", x.check(), 1);
        rule(x, 1, -1);
        due("check() of endless many", x.check(), 1);
        row(x, 29, 29);
        due("check() without trees", x.check(), 1);
    }

    public static void main(String[] args) {
        newObject();
        sorts();
        variables();
        begins();
        puts();
        closes();
        tokens();
        drops();
        countsOfTrees();
        sizesAndCodes();
        stretchKinds();
        tapes();
        grows();
        shortestRows();
        rulesTold();
        counts();
        checks();
        end();
    }
}
