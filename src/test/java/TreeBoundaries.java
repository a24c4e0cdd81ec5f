/**
 * The boundary cases of the trees that rows have: how many, the least and the next, kinds of
 * stretches, shortest rows, the check. Each one is named by the document's words and has a test of its own.
 */
public final class TreeBoundaries extends TestKit {
    private TreeBoundaries() {
    }

    /** A round through two sorts above the constant 5 (rule 2), and a third sort beside it, 6. */
    private static RuleTrees round() {
        RuleTrees x = withVariables(3);
        rule(x, 0, -2);
        rule(x, 1, -1);
        rule(x, 1, 5);
        rule(x, 2, 6);
        return x;
    }

    /** Sort 0: the constant 7 in so many ways; sort 1: three of them; sort 2: two of sort 1. */
    private static RuleTrees sixPlaces(int ways) {
        RuleTrees x = withSorts(4);
        for (int sort : new int[] {0, 0, 0, 1, 1, 2}) {
            x.variable(sort);
        }
        for (int k = 0; k < ways; k++) {
            rule(x, 0, 7);
        }
        rule(x, 1, -1, -2, -3);
        rule(x, 2, -4, -5);
        row(x, times(6, 7));
        return x;
    }

    // Terms.

    private static void leafIsJustThatVariable() {
        RuleTrees x = withVariables(2);
        row(x, -1, -1, -2);
        due("variable 0 as sort 0", x.trees(0, 0, 1), 1);
        due("variable 0 as sort 1", x.trees(1, 0, 1), 0);
        due("variable 1 as sort 1", x.trees(1, 2, 3), 1);
        due("variable 0 twice", x.trees(0, 0, 2), 0);
        row(x, 0);
        due("the constant 0", x.trees(0, 0, 1), 0);
    }

    private static void anyVariableOfTheSort() {
        RuleTrees x = withSorts(1);
        x.variable(0);
        x.variable(0);
        rule(x, 0, 3, -1);
        row(x, 3, -2);
        due("another leaf of the same sort in the rule's variable", x.trees(0, 0, 2), 1);
        dueCodes("its codes", codes(x, 0, 0), 0, -2);
    }

    private static void sameWhereverItStands() {
        RuleTrees x = withSorts(1);
        x.variable(0);
        rule(x, 0, -1, -1, -1, -1);
        rule(x, 0, 1);
        rule(x, 0, 1);
        rule(x, 0, 2);
        row(x, 1, 1, 1, 1);
        due("four times the same symbols, and one tree for all", x.trees(0, 0, 4), 2);
        due("size(0, 0)", x.size(0, 0), 2);
        row(x, 1, 1, 1, 2);
        due("other symbols at the last place", x.trees(0, 0, 4), 0);
        row(x, 1, 2, 1, 1);
        due("other symbols at the second place", x.trees(0, 0, 4), 0);
        row(x, 1, 1, 1);
        due("three times the same", x.trees(0, 0, 3), 0);
        row(x, 1, 1, 1, 1, 1, 1, 1, 1);
        due("in another length", x.trees(0, 0, 8), 0);
    }

    private static void sameInEverySymbol() {
        RuleTrees x = withVariables(2);
        rule(x, 1, 9, -1, -1);
        rule(x, 0, 1, 2);
        rule(x, 0, 1, 3);
        rule(x, 0, 2, 1);
        row(x, 9, 1, 2, 1, 2);
        due("1 2 twice", x.trees(1, 0, 5), 1);
        row(x, 9, 1, 2, 1, 3);
        due("the last symbol is another", x.trees(1, 0, 5), 0);
        row(x, 9, 1, 2, 2, 1);
        due("the second time backwards", x.trees(1, 0, 5), 0);
        row(x, 9, 1, 3, 1, 3);
        dueCodes("1 3 twice", codes(x, 1, 0), 0, 2);
    }

    private static void differentVariablesDiffer() {
        RuleTrees x = withSorts(1);
        x.variable(0);
        x.variable(0);
        rule(x, 0, -1, 9, -2);
        rule(x, 0, 1);
        rule(x, 0, 1);
        row(x, 1, 9, 1);
        due("two trees for each of two variables", x.trees(0, 0, 3), 4);
    }

    private static void codesByFirstPlace() {
        RuleTrees x = withVariables(4);
        rule(x, 0, -4, -2, -4, -3);
        rule(x, 1, 1);
        rule(x, 2, 2);
        rule(x, 3, 3);
        row(x, 3, 1, 3, 2);
        dueCodes("variables 3, 1, 2", codes(x, 0, 0), 0, 3, 1, 2);
    }

    private static void greatestCodes() {
        RuleTrees x = withSorts(1);
        for (int k = 0; k < 20; k++) {
            x.variable(0);
        }
        for (int k = 0; k < 29; k++) {
            rule(x, 0, 0, 0);
        }
        rule(x, 0, 1, -20);
        row(x, 1, -20);
        dueCodes("rule 29 and variable 19", codes(x, 0, 0), 29, -20);
    }

    private static void lessSizeFirst() {
        RuleTrees x = withSorts(1);
        x.variable(0);
        x.variable(0);
        rule(x, 0, -1, -2);
        rule(x, 0, 4);
        rule(x, 0, 4, -1);
        rule(x, 0, 4, 4);
        row(x, 4, 4);
        dueCodes("size 1 before size 2", codes(x, 0, 0), 3);
        dueCodes("size 2 before size 3", codes(x, 0, 1), 2, 1);
    }

    private static void lessCodeThen() {
        RuleTrees x = pairs();
        rule(x, 0, 0);
        row(x, 0, 0);
        dueCodes("the least", codes(x, 0, 0), 0, 1, 1);
        dueCodes("the next differs in its last code", codes(x, 0, 1), 0, 1, 2);
        row(x, -1, -2, -1);
        dueCodes("a leaf's code is less than a rule's", codes(x, 0, 0), 0, -1, 0, -2, -1);
        dueCodes("a rule's code is more", codes(x, 0, 1), 0, 0, -1, -2, -1);
    }

    private static void rulesThatAreAlike() {
        RuleTrees x = withSorts(1);
        for (int k = 0; k < 4; k++) {
            rule(x, 0, 7);
        }
        row(x, 7);
        due("trees(0, 0, 1)", x.trees(0, 0, 1), 4);
        dueCodes("the least", codes(x, 0, 0), 0);
        dueCodes("the next", codes(x, 0, 1), 1);
        due("check()", x.check(), 1);
    }

    // Promise 9, with the constants.

    private static void noTrees() {
        RuleTrees x = withVariables(2);
        row(x, 0, -1);
        due("trees(0, 0, 1) without rules", x.trees(0, 0, 1), 0);
        due("trees(0, 0, 2) without rules", x.trees(0, 0, 2), 0);
        rule(x, 0, -1, -1);
        due("trees(1, 0, 2) without a rule of the sort", x.trees(1, 0, 2), 0);
        rule(x, 0, 0, -1, 0);
        due("a rule that is longer than the stretch", x.trees(0, 0, 2), 0);
        x.begin(0);
        x.put(0);
        due("a rule that is only begun", x.trees(0, 0, 1), 0);
        x.close();
        due("the rule when it is closed", x.trees(0, 0, 1), 1);
    }

    private static void aMillionTrees() {
        RuleTrees x = sixPlaces(10);
        due("10 to the 6th", x.trees(2, 0, 6), 1000000);
        rule(x, 3, -6);
        due("the same by one rule more", x.trees(3, 0, 6), 1000000);
        due("stretches(2, 2)", x.stretches(2, 2), 1);
    }

    /** Each symbol more makes ten times as many and nine more; the sixth only eight more at first. */
    private static void upToAMillion() {
        RuleTrees x = withVariables(2);
        for (int k = 0; k < 8; k++) {
            rule(x, 1, 7);
        }
        rule(x, 1, -2, 7);
        rule(x, 0, -2);
        for (int k = 0; k < 10; k++) {
            rule(x, 0, -1, 7);
        }
        for (int length = 1; length <= 5; length++) {
            rule(x, 0, times(length, 7));
        }
        row(x, times(6, 7));
        int[] told = {9, 99, 999, 9999, 99999, 999998};
        for (int length = 1; length <= 6; length++) {
            due("trees(0, 0, " + length + ")", x.trees(0, 0, length), told[length - 1]);
        }
        rule(x, 0, times(6, 7));
        due("one more", x.trees(0, 0, 6), 999999);
        rule(x, 0, times(6, 7));
        due("two more", x.trees(0, 0, 6), 1000000);
        rule(x, 0, times(6, 7));
        due("three more", x.trees(0, 0, 6), RuleTrees.MANY);
    }

    private static void thirtyRulesOfOneVariable() {
        RuleTrees x = withVariables(2);
        for (int k = 0; k < 30; k++) {
            rule(x, 1, -1);
        }
        row(x, -1);
        due("trees(1, 0, 1)", x.trees(1, 0, 1), 30);
        dueCodes("the least", codes(x, 1, 0), 0, -1);
        dueCodes("the next", codes(x, 1, 1), 1, -1);
        x = withVariables(2);
        for (int k = 0; k < 29; k++) {
            rule(x, 0, -2);
        }
        row(x, -1);
        due("29 rules that lead nowhere", x.trees(0, 0, 1), 1);
        rule(x, 0, -1);
        due("the thirtieth makes a round", x.trees(0, 0, 1), RuleTrees.ENDLESS);
    }

    private static void aMillionAndOne() {
        RuleTrees x = sixPlaces(10);
        rule(x, 3, -6);
        rule(x, 3, times(6, 7));
        due("one more beside a rule of one variable", x.trees(3, 0, 6), RuleTrees.MANY);
        due("MANY", RuleTrees.MANY, -2);
        due("that rule's part", x.trees(2, 0, 6), 1000000);
        rule(x, 2, times(6, 7));
        due("one more beside the product", x.trees(2, 0, 6), RuleTrees.MANY);
        due("stretches(2, 2): many are not endless many", x.stretches(2, 2), 1);
        due("stretches(2, 3)", x.stretches(2, 3), 0);
        due("size(2, 0)", x.size(2, 0), 1);
        due("size(2, 1)", x.size(2, 1), 9);
    }

    /** 10 * 10 * 10 * 10 * 10 * 5 trees, by two and then by three rules of one variable. */
    private static void halfAMillionTwice() {
        RuleTrees x = withSorts(5);
        for (int sort : new int[] {0, 0, 0, 1, 2, 3}) {
            x.variable(sort);
        }
        for (int k = 0; k < 10; k++) {
            rule(x, 0, 7);
        }
        for (int k = 0; k < 5; k++) {
            rule(x, 1, 8);
        }
        rule(x, 2, -1, -2, -3);
        rule(x, 3, -5, -1, -2, -4);
        rule(x, 4, -6);
        row(x, 7, 7, 7, 7, 7, 8);
        due("once", x.trees(4, 0, 6), 500000);
        rule(x, 4, -6);
        due("twice", x.trees(4, 0, 6), 1000000);
        rule(x, 4, -6);
        due("three times", x.trees(4, 0, 6), RuleTrees.MANY);
    }

    /** 2 to the 32nd and to the 108th: a count that wraps around would tell 0. */
    private static void countsThatWouldWrap() {
        RuleTrees x = withVariables(3);
        for (int k = 0; k < 3; k++) {
            x.variable(0);
        }
        x.variable(1);
        for (int k = 0; k < 16; k++) {
            rule(x, 0, 7);
        }
        rule(x, 1, -1, -4, -5, -6);
        rule(x, 2, -2, -7);
        row(x, times(8, 7));
        due("2 to the 16th", x.trees(1, 0, 4), 65536);
        due("2 to the 32nd", x.trees(2, 0, 8), RuleTrees.MANY);
        x = withVariables(5);
        for (int sort : new int[] {2, 2, 2, 3, 3}) {
            x.variable(sort);
        }
        for (int k = 0; k < 8; k++) {
            rule(x, 0, 7);
            rule(x, 1, -1);
            rule(x, 2, -2);
        }
        rule(x, 3, -3, -6, -7, -8);
        rule(x, 4, -4, -9, -10);
        row(x, times(12, 7));
        due("2 to the 9th", x.trees(2, 0, 1), 512);
        due("2 to the 36th", x.trees(3, 0, 4), RuleTrees.MANY);
        due("2 to the 108th", x.trees(4, 0, 12), RuleTrees.MANY);
        due("size(4, 0)", x.size(4, 0), 40);
        due("size(4, 1)", x.size(4, 1), 40);
    }

    private static void manyTimesNone() {
        RuleTrees x = sixPlaces(11);
        rule(x, 3, -6, 5);
        x.token(5);
        due("many, and the constant behind them", x.trees(3, 0, 7), RuleTrees.MANY);
        due("many, without it", x.trees(3, 0, 6), 0);
    }

    private static void endlessTrees() {
        RuleTrees x = round();
        row(x, 5, 6);
        due("ENDLESS", RuleTrees.ENDLESS, -3);
        due("in the round", x.trees(0, 0, 1), RuleTrees.ENDLESS);
        due("in the round", x.trees(1, 0, 1), RuleTrees.ENDLESS);
        due("the round without a tree", x.trees(0, 1, 2), 0);
        due("beside the round", x.trees(2, 1, 2), 1);
        rule(x, 2, -1);
        due("above the round", x.trees(2, 0, 1), RuleTrees.ENDLESS);
        due("above the round without a tree", x.trees(2, 1, 2), 1);
        rule(x, 2, -2, -3);
        due("a part has endless many, the other one", x.trees(2, 0, 2), RuleTrees.ENDLESS);
    }

    private static void endlessBesideNone() {
        RuleTrees x = round();
        rule(x, 2, -1, 9);
        row(x, 5, 8);
        due("an endless part, the constant is another", x.trees(2, 0, 2), 0);
        row(x, 5, 9);
        due("an endless part, the constant is there", x.trees(2, 0, 2), RuleTrees.ENDLESS);
        due("an endless part, the constant is behind the stretch", x.trees(2, 0, 1), 0);
    }

    private static void aSortOfItself() {
        RuleTrees x = withVariables(1);
        rule(x, 0, -1);
        row(x, -1, 4);
        due("over a leaf", x.trees(0, 0, 1), RuleTrees.ENDLESS);
        due("over nothing", x.trees(0, 1, 2), 0);
        x = withVariables(1);
        rule(x, 0, -1, -1);
        rule(x, 0, 4);
        row(x, times(8, 4));
        due("parts that are shorter make no endless many", x.trees(0, 0, 8), 1);
    }

    /** Five steps up, and back from the last to the first. */
    private static void theLongestRound() {
        RuleTrees x = withVariables(6);
        for (int sort = 0; sort < 5; sort++) {
            rule(x, sort, -2 - sort);
        }
        rule(x, 5, 3);
        row(x, 3);
        due("five steps up", x.trees(0, 0, 1), 1);
        dueCodes("five steps up", codes(x, 0, 0), 0, 1, 2, 3, 4, 5);
        rule(x, 5, -1);
        for (int sort = 0; sort < 6; sort++) {
            due("in the round", x.trees(sort, 0, 1), RuleTrees.ENDLESS);
        }
        dueCodes("the next goes around once", codes(x, 0, 1), 0, 1, 2, 3, 4, 6, 0, 1, 2, 3, 4, 5);
    }

    private static void theRoundOfTheLastSort() {
        RuleTrees x = withVariables(6);
        for (int sort = 1; sort < 6; sort++) {
            rule(x, sort, -sort);
        }
        row(x, -1, 4);
        due("the sixth sort above the first", x.trees(5, 0, 1), 1);
        rule(x, 5, -6);
        due("the sixth sort of itself", x.trees(5, 0, 1), RuleTrees.ENDLESS);
        due("the fifth sort below it", x.trees(4, 0, 1), 1);
        due("over nothing", x.trees(5, 1, 2), 0);
        row(x, -1);
        dueCodes("the least goes five steps up", codes(x, 5, 0), 4, 3, 2, 1, 0, -1);
        dueCodes("the next goes around once", codes(x, 5, 1), 5, 4, 3, 2, 1, 0, -1);
    }

    /** Sort 0 stands above a round in sort 1 and, by another rule, above sort 2. */
    private static void aboveARoundAndAnother() {
        for (int first = 1; first <= 2; first++) {
            RuleTrees x = withVariables(3);
            rule(x, 1, -2);
            rule(x, 0, -1 - first);
            rule(x, 0, -1 - (3 - first));
            row(x, -2, -3);
            due("above the round", x.trees(0, 0, 1), RuleTrees.ENDLESS);
            due("above the other", x.trees(0, 1, 2), 1);
        }
        RuleTrees x = withVariables(3);
        rule(x, 0, -2);
        rule(x, 0, -3);
        rule(x, 1, -2);
        row(x, -2, -3);
        due("above a round that comes last", x.trees(0, 0, 1), RuleTrees.ENDLESS);
    }

    private static void treesOfNoSort() {
        for (int sort : new int[] {1, -1, 6, LEAST_INT, GREATEST_INT}) {
            refused("trees(" + sort + ", 0, 1)", NONE, TreeBoundaries::threeInARow, x -> x.trees(sort, 0, 1));
        }
    }

    private static RuleTrees threeInARow() {
        RuleTrees x = pairs();
        row(x, 0, 0, 0);
        return x;
    }

    private static void treesOfNoStretch() {
        int[][] wrong = {{0, 0}, {3, 3}, {2, 1}, {-1, 1}, {0, 4}, {3, 4}, {-1, 0}, {LEAST_INT, 1},
            {0, GREATEST_INT}, {LEAST_INT, GREATEST_INT}, {GREATEST_INT, LEAST_INT}, {0, LEAST_INT}};
        for (int[] at : wrong) {
            refused("trees(0, " + at[0] + ", " + at[1] + ")", NONE, TreeBoundaries::threeInARow,
                x -> x.trees(0, at[0], at[1]));
        }
    }

    private static void firstAndLastStretch() {
        RuleTrees x = threeInARow();
        due("the first symbol", x.trees(0, 0, 1), 1);
        due("the last symbol", x.trees(0, 2, 3), 1);
        due("the whole row", x.trees(0, 0, 3), 2);
        row(x, times(12, 0));
        due("the twelfth symbol", x.trees(0, 11, 12), 1);
        due("all twelve", x.trees(0, 0, 12), 58786);
        due("behind the twelfth", x.trees(0, 12, 13), NONE);
        due("trees(0, 0, 13)", x.trees(0, 0, 13), NONE);
    }

    private static void treesOfTheEmptyRow() {
        RuleTrees x = threeInARow();
        due("trees(0, 0, 1)", x.trees(0, 0, 1), 1);
        x.drop();
        due("trees(0, 0, 0)", x.trees(0, 0, 0), NONE);
        due("trees(0, 0, 1)", x.trees(0, 0, 1), NONE);
    }

    // Promises 10 and 11.

    private static void sizeWithoutTree() {
        RuleTrees x = threeInARow();
        row(x, 0, 1);
        due("size(0, 0): only a part of the row has a tree", x.size(0, 0), 0);
        due("size(0, 1)", x.size(0, 1), 0);
        due("code(0, 0, 0)", x.code(0, 0, 0), NOTHING);
        x.drop();
        due("size(0, 0) of the empty row", x.size(0, 0), 0);
        due("code(0, 0, 0) of the empty row", x.code(0, 0, 0), NOTHING);
    }

    private static void sizeWithoutNextTree() {
        RuleTrees x = pairs();
        row(x, 0, 0);
        due("size(0, 0)", x.size(0, 0), 3);
        due("size(0, 1)", x.size(0, 1), 0);
        due("code(0, 1, 0)", x.code(0, 1, 0), NOTHING);
        rule(x, 0, 0, 0);
        due("size(0, 1) when there is one more", x.size(0, 1), 3);
        due("code(0, 1, 0) when there is one more", x.code(0, 1, 0), 0);
        due("code(0, 0, 0) of the new one", x.code(0, 0, 0), 2);
    }

    private static void sizeOfNoSort() {
        for (int sort : new int[] {1, -1, 6, LEAST_INT, GREATEST_INT}) {
            refused("size(" + sort + ", 0)", 0, TreeBoundaries::threeInARow, x -> x.size(sort, 0));
            refused("code(" + sort + ", 0, 0)", NOTHING, TreeBoundaries::threeInARow, x -> x.code(sort, 0, 0));
        }
    }

    /** The sorts before and behind have trees too: none of these may be taken for one of sort 1. */
    private static RuleTrees threeSortsWithTwoTrees() {
        RuleTrees x = withSorts(3);
        for (int sort = 0; sort < 3; sort++) {
            rule(x, sort, 7, 7);
            rule(x, sort, 7, 7);
        }
        row(x, 7, 7);
        return x;
    }

    private static void sizeOfNoTree() {
        for (int which : new int[] {2, -1, 3, -2, LEAST_INT, GREATEST_INT}) {
            refused("size(1, " + which + ")", 0, TreeBoundaries::threeSortsWithTwoTrees, x -> x.size(1, which));
            refused("code(1, " + which + ", 0)", NOTHING, TreeBoundaries::threeSortsWithTwoTrees,
                x -> x.code(1, which, 0));
        }
        due("size(1, 1)", threeSortsWithTwoTrees().size(1, 1), 1);
        due("code(1, 1, 0)", threeSortsWithTwoTrees().code(1, 1, 0), 3);
    }

    private static void codeAtNoPlace() {
        for (int k : new int[] {5, -1, LEAST_INT, GREATEST_INT}) {
            refused("code(0, 0, " + k + ")", NOTHING, TreeBoundaries::threeInARow, x -> x.code(0, 0, k));
            refused("code(0, 1, " + k + ")", NOTHING, TreeBoundaries::threeInARow, x -> x.code(0, 1, k));
        }
        due("the first code", threeInARow().code(0, 0, 0), 0);
        due("the last code", threeInARow().code(0, 0, 4), 1);
        // The next tree is longer than the least: its codes do not end with those.
        RuleTrees x = pairs();
        rule(x, 0, 0, 0);
        row(x, 0, 0);
        due("code(0, 0, 1)", x.code(0, 0, 1), NOTHING);
        due("code(0, 1, 2)", x.code(0, 1, 2), 1);
        due("code(0, 0, 1) again", x.code(0, 0, 1), NOTHING);
    }

    private static void leastAndNextOfEndlessMany() {
        RuleTrees x = round();
        row(x, 5);
        dueCodes("the least as sort 0", codes(x, 0, 0), 0, 2);
        dueCodes("the next as sort 0", codes(x, 0, 1), 0, 1, 0, 2);
        dueCodes("the least as sort 1", codes(x, 1, 0), 2);
        dueCodes("the next as sort 1", codes(x, 1, 1), 1, 0, 2);
        due("as sort 2", x.size(2, 0), 0);
    }

    private static void leastOfARow() {
        RuleTrees x = pairs();
        row(x, 0);
        due("one symbol", x.size(0, 0), 1);
        due("one symbol, the next", x.size(0, 1), 0);
        row(x, times(12, 0));
        due("twelve symbols", x.size(0, 0), 23);
        due("twelve symbols, the next", x.size(0, 1), 23);
        int[] least = codes(x, 0, 0);
        for (int k = 0; k < 23; k++) {
            due("code(0, 0, " + k + ")", least[k], k < 11 ? 0 : 1);
        }
        int[] next = codes(x, 0, 1);
        for (int k = 0; k < 23; k++) {
            due("code(0, 1, " + k + ")", next[k], k < 10 || k == 11 ? 0 : 1);
        }
    }

    /** Twelve stretches inside one another, each with a chain through all six sorts. */
    private static void longestOnlyTree() {
        RuleTrees x = withVariables(6);
        for (int sort = 0; sort < 6; sort++) {
            rule(x, sort, -1 - (sort + 1) % 6);
        }
        rule(x, 5, 1, -1);
        rule(x, 5, 0);
        row(x, 1, 1, 1, 1, 1, 1, 1, 1, 1, 1, 1, 0);
        due("size(0, 0)", x.size(0, 0), 72);
        due("size(0, 1)", x.size(0, 1), 78);
        due("code(0, 0, 5)", x.code(0, 0, 5), 6);
        due("code(0, 0, 71)", x.code(0, 0, 71), 7);
        due("code(0, 0, 72)", x.code(0, 0, 72), NOTHING);
        due("code(0, 1, 5): the round comes first", x.code(0, 1, 5), 5);
        due("code(0, 1, 11)", x.code(0, 1, 11), 6);
        due("code(0, 1, 77)", x.code(0, 1, 77), 7);
        due("code(0, 1, 78)", x.code(0, 1, 78), NOTHING);
        due("check()", x.check(), 1);
    }

    private static void treesFollowTheRow() {
        RuleTrees x = pairs();
        row(x, 0, 0);
        due("size(0, 0)", x.size(0, 0), 3);
        x.token(0);
        due("size(0, 0) with one more symbol", x.size(0, 0), 5);
        x.token(1);
        due("size(0, 0) with a symbol of no rule", x.size(0, 0), 0);
        rule(x, 0, -1, 1);
        due("size(0, 0) with a rule for it", x.size(0, 0), 6);
        row(x, 0, 1, 0);
        due("trees(0, 0, 2) of another row", x.trees(0, 0, 2), 1);
        due("trees(0, 1, 3) of another row", x.trees(0, 1, 3), 0);
        due("size(0, 0) of another row", x.size(0, 0), 4);
    }

    private static void treesOfTheOldRowAreGone() {
        RuleTrees x = threeInARow();
        due("size(0, 1)", x.size(0, 1), 5);
        row(x, 0, 0, 1);
        due("size(0, 0) of a row without trees", x.size(0, 0), 0);
        due("size(0, 1) of a row without trees", x.size(0, 1), 0);
        due("code(0, 1, 0) of a row without trees", x.code(0, 1, 0), NOTHING);
        rule(x, 0, -1, 2, 2);
        row(x, 0, 0, 0);
        due("size(0, 1)", x.size(0, 1), 5);
        row(x, -1, 2, 2);
        dueCodes("the only tree of a new row", codes(x, 0, 0), 2, -1);
        due("size(0, 1) of a row with one tree", x.size(0, 1), 0);
        // The old trees are less than the new one: they must not stand in its way.
        x = pairs();
        rule(x, 0, 0, 0);
        row(x, 0, 0);
        due("size(0, 1)", x.size(0, 1), 3);
        rule(x, 0, 1);
        int more = -1 - x.variable(0);
        rule(x, 0, more);
        row(x, 1, 0);
        dueCodes("the least of the new row", codes(x, 0, 0), 0, 3, 1);
        dueCodes("the next of the new row", codes(x, 0, 1), 0, 3, 4, 1);
    }

    // Promise 12.

    private static void stretchesOfTheEmptyRow() {
        for (int what = 0; what <= 3; what++) {
            due("stretches(0, " + what + ")", pairs().stretches(0, what), 0);
        }
    }

    private static void stretchesOfTheFullRow() {
        RuleTrees x = pairs();
        row(x, times(12, 0));
        due("just one: of 1 or 2 symbols", x.stretches(0, 1), 23);
        due("more", x.stretches(0, 2), 55);
        due("none", x.stretches(0, 0), 0);
        due("endless many", x.stretches(0, 3), 0);
        rule(x, 0, -1);
        due("all endless many", x.stretches(0, 3), 78);
        row(x, times(12, 1));
        due("all without", x.stretches(0, 0), 78);
    }

    private static void stretchesByKind() {
        RuleTrees x = round();
        rule(x, 2, 6);
        rule(x, 0, 4);
        row(x, 5, 6, 4);
        due("sort 2, none", x.stretches(2, 0), 5);
        due("sort 2, just one", x.stretches(2, 1), 0);
        due("sort 2, two are more", x.stretches(2, 2), 1);
        due("sort 2, endless many", x.stretches(2, 3), 0);
        due("sort 0, endless many", x.stretches(0, 3), 2);
        due("sort 0, more, but not endless many", x.stretches(0, 2), 0);
        due("sort 0, none", x.stretches(0, 0), 4);
    }

    private static void stretchesOfNoSort() {
        for (int sort : new int[] {1, -1, 6, LEAST_INT, GREATEST_INT}) {
            refused("stretches(" + sort + ", 0)", NONE, TreeBoundaries::threeInARow, x -> x.stretches(sort, 0));
        }
        due("stretches(1, 0) of the empty row", pairs().stretches(1, 0), NONE);
    }

    private static void stretchesOfNoKind() {
        for (int what : new int[] {4, -1, LEAST_INT, GREATEST_INT}) {
            refused("stretches(0, " + what + ")", NONE, TreeBoundaries::threeInARow, x -> x.stretches(0, what));
        }
        due("stretches(0, 4) of the empty row", pairs().stretches(0, 4), NONE);
    }

    // Promise 17.

    private static void shortestWithoutRow() {
        RuleTrees x = withVariables(2);
        due("without rules", x.shortest(0), NONE);
        rule(x, 0, -1, -1);
        due("a rule that never ends", x.shortest(0), NONE);
        rule(x, 0, 3, -2);
        due("a rule with a sort that has none", x.shortest(0), NONE);
        row(x, -1);
        due("a leaf in the row is no constant", x.shortest(0), NONE);
        x.begin(1);
        x.put(4);
        due("a rule that is only begun", x.shortest(1), NONE);
        x.close();
        due("the rule when it is closed", x.shortest(1), 1);
        due("the sort above it", x.shortest(0), 2);
        x = withVariables(2);
        rule(x, 0, 3, -2);
        rule(x, 0, 5, 5, 5);
        rule(x, 0, 6, -2);
        due("a rule of constants between two with a sort that has none", x.shortest(0), 3);
    }

    private static void shortestOfNoSort() {
        for (int sort : new int[] {1, -1, 6, LEAST_INT, GREATEST_INT}) {
            refused("shortest(" + sort + ")", NONE, TreeBoundaries::threeInARow, x -> x.shortest(sort));
        }
        due("shortest(0) without sorts", new RuleTrees().shortest(0), NONE);
    }

    private static void shortestAndLongest() {
        RuleTrees x = withVariables(6);
        for (int sort = 0; sort < 5; sort++) {
            int part = -2 - sort;
            rule(x, sort, part, part, part, part, 1, 2, 3, 4);
        }
        rule(x, 5, 1, 2, 3, 4, 5, 6, 7, 8);
        due("more symbols than the row can have", x.shortest(4), 36);
        due("as many as six sorts can need", x.shortest(0), 4 + 4 * 2388);
        rule(x, 0, -1, -1);
        due("a longer way is not told", x.shortest(0), 4 + 4 * 2388);
        rule(x, 0, 9);
        due("one symbol", x.shortest(0), 1);
    }

    private static void shortestAgainstTheOrder() {
        RuleTrees x = withVariables(6);
        // Each rule needs the one behind it, so a look at each rule once would not do.
        for (int sort = 0; sort < 5; sort++) {
            rule(x, sort, -2 - sort, 0);
        }
        rule(x, 5, 0);
        for (int sort = 0; sort < 6; sort++) {
            due("shortest(" + sort + ")", x.shortest(sort), 6 - sort);
        }
    }

    private static void shortestLeavesTheRow() {
        RuleTrees x = threeInARow();
        due("shortest(0)", x.shortest(0), 1);
        due("count(3)", x.count(3), 3);
        due("trees(0, 0, 3)", x.trees(0, 0, 3), 2);
    }

    // Promise 21.

    private static void checkWithoutSorts() {
        due("check() of a new object", new RuleTrees().check(), 1);
        RuleTrees x = new RuleTrees();
        row(x, times(12, 0));
        due("check() of a full row without sorts", x.check(), 1);
    }

    private static void checkOfEachKind() {
        RuleTrees x = pairs();
        due("the empty row", x.check(), 1);
        row(x, 1);
        due("no tree", x.check(), 1);
        row(x, 0);
        due("one tree of one code", x.check(), 1);
        row(x, -2);
        due("a leaf", x.check(), 1);
        row(x, 0, 0);
        due("one tree", x.check(), 1);
        x.token(0);
        due("two trees", x.check(), 1);
        row(x, times(12, 0));
        due("58786 trees", x.check(), 1);
        rule(x, 0, -1);
        due("endless many", x.check(), 1);
        due("MANY", sixPlaces(11).check(), 1);
    }

    /** Without any question between, so that no other call can have looked at the new row. */
    private static void checkOfANewRow() {
        RuleTrees x = threeInARow();
        due("size(0, 0)", x.size(0, 0), 5);
        row(x, 0, 1, 0);
        due("check() of another row", x.check(), 1);
        row(x, 0, 0, 0);
        due("size(0, 0)", x.size(0, 0), 5);
        tape(x, 0, 0, -1, -2, -2);
        due("grow(0)", x.grow(0), 0);
        due("check() of a row that grew", x.check(), 1);
        rule(x, 0, -1);
        due("check() with one more rule", x.check(), 1);
        x.sort();
        due("check() with one more sort", x.check(), 1);
    }

    private static RuleTrees threeWithPlace() {
        RuleTrees x = threeInARow();
        tape(x, 1, 1);
        x.grow(0);
        return x;
    }

    private static void checkLeavesAll() {
        refused("check()", 1, TreeBoundaries::threeWithPlace, RuleTrees::check);
        RuleTrees x = threeWithPlace();
        x.check();
        due("place()", x.place(), 1);
        dueCodes("the least", codes(x, 0, 0), 0, 0, 1, 1, 1);
        dueCodes("the next", codes(x, 0, 1), 0, 1, 0, 1, 1);
    }

    private static void questionsLeaveAll() {
        refused("trees(0, 0, 3)", 2, TreeBoundaries::threeWithPlace, x -> x.trees(0, 0, 3));
        refused("size(0, 1)", 5, TreeBoundaries::threeWithPlace, x -> x.size(0, 1));
        refused("code(0, 1, 1)", 1, TreeBoundaries::threeWithPlace, x -> x.code(0, 1, 1));
        refused("stretches(0, 1)", 5, TreeBoundaries::threeWithPlace, x -> x.stretches(0, 1));
        refused("shortest(0)", 1, TreeBoundaries::threeWithPlace, x -> x.shortest(0));
        refused("place()", 1, TreeBoundaries::threeWithPlace, RuleTrees::place);
        refused("about(0, 1)", 2, TreeBoundaries::threeWithPlace, x -> x.about(0, 1));
        refused("symbol(0, 1)", -2, TreeBoundaries::threeWithPlace, x -> x.symbol(0, 1));
        refused("count(3)", 3, TreeBoundaries::threeWithPlace, x -> x.count(3));
    }

    /** Thirty rules of four variables over twelve symbols alike, asked until the last of 512 calls. */
    private static void the512thCall() {
        RuleTrees x = withSorts(1);
        int calls = 1;
        for (int k = 0; k < 4; k++) {
            x.variable(0);
            calls++;
        }
        for (int k = 0; k < 30; k++) {
            x.begin(0);
            for (int at = 0; at < 4; at++) {
                x.put(-1 - at);
            }
            x.close();
            calls += 6;
        }
        for (; calls + 27 <= 511; calls += 27) {
            x.drop();
            for (int k = 0; k < 12; k++) {
                x.token(calls % 2 == 0 ? -1 - k % 4 : -4 + k % 4);
                due("trees()", x.trees(0, 0, k + 1), k % 3 == 0 ? countOf(k / 3) : 0);
            }
            x.check();
            x.size(0, 0);
        }
        for (; calls < 511; calls++) {
            due("stretches(0, 1)", x.stretches(0, 1), 12);
        }
        due("the 512th call", x.size(0, 0), 0);
    }

    /** 30 rules at each node of a tree of four parts, and 0 to 3 nodes: 1, 1, 4, 22 shapes. */
    private static int countOf(int nodes) {
        return new int[] {1, 30, 4 * 900, 22 * 27000}[nodes];
    }

    public static void main(String[] args) {
        sentence("Terms", "a variable of that sort, if they are just that variable",
            TreeBoundaries::leafIsJustThatVariable);
        sentence("Terms", "with a tree of its sort for each different variable in it",
            TreeBoundaries::anyVariableOfTheSort);
        sentence("Terms", "each variable, wherever it stands in it, replaced by the symbols of its tree",
            TreeBoundaries::sameWhereverItStands);
        sentence("Terms", "each variable, wherever it stands in it, replaced by the symbols",
            TreeBoundaries::sameInEverySymbol);
        sentence("Terms", "a tree of its sort for each different variable", TreeBoundaries::differentVariablesDiffer);
        sentence("Terms", "in the order in which these stand in it first", TreeBoundaries::codesByFirstPlace);
        sentence("Terms", "of a leaf -1 - v; of a rule its number", TreeBoundaries::greatestCodes);
        sentence("Terms", "that one is LESS which has less size", TreeBoundaries::lessSizeFirst);
        sentence("Terms", "the less code where their codes differ first", TreeBoundaries::lessCodeThen);
        sentence("Terms", "the less code", TreeBoundaries::rulesThatAreAlike);
        sentence("Promise 9", "0 to 1000000", TreeBoundaries::noTrees);
        sentence("Promise 9", "0 to 1000000, MANY", TreeBoundaries::aMillionTrees);
        sentence("Promise 9", "0 to 1000000, MANY, ENDLESS", TreeBoundaries::upToAMillion);
        sentence("Terms", "A RULE, at most 30", TreeBoundaries::thirtyRulesOfOneVariable);
        sentence("Terms", "`MANY = -2`: More than 1000000.", TreeBoundaries::aMillionAndOne);
        sentence("Terms", "More than 1000000", TreeBoundaries::halfAMillionTwice);
        sentence("Terms", "More than 1000000.", TreeBoundaries::countsThatWouldWrap);
        sentence("Promise 9", "How many trees of a sort a stretch has", TreeBoundaries::manyTimesNone);
        sentence("Terms", "`ENDLESS = -3`: Endless many.", TreeBoundaries::endlessTrees);
        sentence("Promise 9", "MANY, ENDLESS", TreeBoundaries::endlessBesideNone);
        sentence("Promise 9", "ENDLESS", TreeBoundaries::aSortOfItself);
        sentence("Terms", "Endless many", TreeBoundaries::theLongestRound);
        sentence("Terms", "SORTS, at most 6", TreeBoundaries::theRoundOfTheLastSort);
        sentence("Terms", "Endless many.", TreeBoundaries::aboveARoundAndAnother);
        sentence("Promise 9", "NONE when there is no such sort", TreeBoundaries::treesOfNoSort);
        sentence("Promise 9", "or stretch", TreeBoundaries::treesOfNoStretch);
        sentence("Terms", "(0 <= from < to <= its length)", TreeBoundaries::firstAndLastStretch);
        sentence("Terms", "a STRETCH of it goes from one place to before another one",
            TreeBoundaries::treesOfTheEmptyRow);
        sentence("Promise 10", "0 when there is none such", TreeBoundaries::sizeWithoutTree);
        sentence("Promise 10", "or of the next one (1)", TreeBoundaries::sizeWithoutNextTree);
        sentence("Promise 10", "of a sort", TreeBoundaries::sizeOfNoSort);
        sentence("Promise 10", "(which 0)", TreeBoundaries::sizeOfNoTree);
        sentence("Promise 11", "NOTHING when there is none such", TreeBoundaries::codeAtNoPlace);
        sentence("Promise 10", "The size of the least tree of a sort", TreeBoundaries::leastAndNextOfEndlessMany);
        sentence("Promise 10", "for the whole row", TreeBoundaries::leastOfARow);
        sentence("Promise 11", "Code k of that tree", TreeBoundaries::longestOnlyTree);
        sentence("Promise 10", "the whole row", TreeBoundaries::treesFollowTheRow);
        sentence("Promise 11", "that tree", TreeBoundaries::treesOfTheOldRowAreGone);
        sentence("Promise 12", "How many stretches have no tree of a sort (what 0)",
            TreeBoundaries::stretchesOfTheEmptyRow);
        sentence("Terms", "The ROW has at most 12 symbols", TreeBoundaries::stretchesOfTheFullRow);
        sentence("Promise 12", "just one (1), more, but not endless many (2), endless many (3)",
            TreeBoundaries::stretchesByKind);
        sentence("Promise 12", "NONE when there is no such sort", TreeBoundaries::stretchesOfNoSort);
        sentence("Promise 12", "or what", TreeBoundaries::stretchesOfNoKind);
        sentence("Promise 17", "NONE when there is none", TreeBoundaries::shortestWithoutRow);
        sentence("Promise 17", "or no such sort", TreeBoundaries::shortestOfNoSort);
        sentence("Promise 17", "How many symbols the shortest row of constants alone has",
            TreeBoundaries::shortestAndLongest);
        sentence("Promise 17", "that has a tree of a sort", TreeBoundaries::shortestAgainstTheOrder);
        sentence("Promise 17", "How many symbols", TreeBoundaries::shortestLeavesTheRow);
        sentence("Promise 21", "for each sort", TreeBoundaries::checkWithoutSorts);
        sentence("Promise 21", "the whole row has a least tree just if it has one, a next one just if it has more",
            TreeBoundaries::checkOfEachKind);
        sentence("Promise 21", "and both are trees of the row", TreeBoundaries::checkOfANewRow);
        sentence("Promise 21", "Whether", TreeBoundaries::checkLeavesAll);
        sentence("Not promised", "Nothing is promised beyond the answers and state changes described above",
            TreeBoundaries::questionsLeaveAll);
        sentence("What it is", "An object is used for at most 512 calls after it has been made",
            TreeBoundaries::the512thCall);
        end();
    }
}
