import java.util.ArrayList;
import java.util.Arrays;
import java.util.List;
import java.util.function.Supplier;
import java.util.function.ToIntFunction;

/**
 * What the tests share: who counts wrong answers, and short ways to make objects and to look at them.
 * A test extends it, because a class without a package can't be imported from.
 */
abstract class TestKit {
    static final int NONE = -1;
    static final int NOTHING = -1000;
    static final int LEAST_INT = Integer.MIN_VALUE;
    static final int GREATEST_INT = Integer.MAX_VALUE;
    /** Never the number of a sort, of a rule in a small object, of a tree or of a symbol's place. */
    static final int[] WRONG = {-1, 6, 30, 1000, LEAST_INT, GREATEST_INT};

    private static String tested = "";
    private static int asked = 0;
    private static int wrong = 0;

    TestKit() {
    }

    /** What the answers that follow are about. */
    static void of(String what) {
        tested = what;
    }

    /** One boundary case in the document's words, and its test, which asks at least once. */
    static void sentence(String where, String words, Runnable test) {
        of(where + ", \"" + words + "\"");
        int before = asked;
        try {
            test.run();
        } catch (RuntimeException thrown) {
            fail("threw " + thrown);
        }
        if (asked == before) {
            fail("the test asked nothing");
        }
    }

    static void due(String call, int got, int want) {
        asked++;
        if (got != want) {
            fail(call + " answered " + got + ", due is " + want);
        }
    }

    static void dueCodes(String what, int[] got, int... want) {
        asked++;
        if (!Arrays.equals(got, want)) {
            fail(what + " told " + Arrays.toString(got) + ", due is " + Arrays.toString(want));
        }
    }

    private static void fail(String how) {
        wrong++;
        System.out.println(tested + ": " + how);
    }

    static void end() {
        System.out.println(asked + " answers asked for, " + wrong + " not as due");
        if (wrong != 0 || asked == 0) {
            System.exit(1);
        }
    }

    static RuleTrees withSorts(int sorts) {
        RuleTrees x = new RuleTrees();
        for (int k = 0; k < sorts; k++) {
            x.sort();
        }
        return x;
    }

    /** So many sorts, and of each the variable of the same number. */
    static RuleTrees withVariables(int sorts) {
        RuleTrees x = withSorts(sorts);
        for (int sort = 0; sort < sorts; sort++) {
            x.variable(sort);
        }
        return x;
    }

    /** One sort: two parts side by side (rule 0), or the constant 0 (rule 1). */
    static RuleTrees pairs() {
        RuleTrees x = withSorts(1);
        x.variable(0);
        x.variable(0);
        rule(x, 0, -1, -2);
        rule(x, 0, 0);
        return x;
    }

    /**
     * Sort 0: two parts with a 0 between them (rule 0), 1 on both sides (rule 1), or an item (rule 2);
     * items are 3 and 4 (rules 3, 4). Variables 0 and 2 are of sort 0, variable 1 is an item.
     */
    static RuleTrees items() {
        RuleTrees x = withSorts(2);
        x.variable(0);
        x.variable(1);
        x.variable(0);
        rule(x, 0, -1, 0, -3);
        rule(x, 0, 1, -1, 1);
        rule(x, 0, -2);
        rule(x, 1, 3);
        rule(x, 1, 4);
        return x;
    }

    static int rule(RuleTrees x, int sort, int... symbols) {
        due("begin(" + sort + ")", x.begin(sort), 1);
        for (int k = 0; k < symbols.length; k++) {
            due("put(" + symbols[k] + ")", x.put(symbols[k]), k + 1);
        }
        return x.close();
    }

    static void row(RuleTrees x, int... symbols) {
        x.drop();
        for (int k = 0; k < symbols.length; k++) {
            due("token(" + symbols[k] + ")", x.token(symbols[k]), k + 1);
        }
    }

    static void tape(RuleTrees x, int... codes) {
        x.clear();
        for (int k = 0; k < codes.length; k++) {
            due("type(" + codes[k] + ")", x.type(codes[k]), k + 1);
        }
    }

    /** So many times the same number. */
    static int[] times(int many, int number) {
        int[] all = new int[many];
        Arrays.fill(all, number);
        return all;
    }

    static int[] codes(RuleTrees x, int sort, int which) {
        int[] codes = new int[x.size(sort, which)];
        for (int k = 0; k < codes.length; k++) {
            codes[k] = x.code(sort, which, k);
        }
        due("code behind the last", x.code(sort, which, codes.length), NOTHING);
        due("code(-1)", x.code(sort, which, -1), NOTHING);
        return codes;
    }

    /** The call answers as due, also when it comes again, and leaves the object like one without it. */
    static void refused(String call, int want, Supplier<RuleTrees> made, ToIntFunction<RuleTrees> act) {
        RuleTrees x = made.get();
        due(call, act.applyAsInt(x), want);
        due(call + " again", act.applyAsInt(x), want);
        dueCodes("what stands after " + call, told(x), told(made.get()));
    }

    /** All that the object tells of itself, in the end also of the rule that is begun and of the tape. */
    static int[] told(RuleTrees x) {
        List<Integer> told = new ArrayList<>();
        tellHeld(x, told);
        tellTrees(x, told);
        told.add(x.close());
        tellRule(x, x.count(2) - 1, told);
        for (int sort = 0; sort < Math.min(x.count(0), 2); sort++) {
            told.add(x.grow(sort));
            told.add(x.place());
            tellTrees(x, told);
        }
        told.add(x.clear());
        told.add(x.drop());
        int[] all = new int[told.size()];
        for (int k = 0; k < all.length; k++) {
            all[k] = told.get(k);
        }
        return all;
    }

    private static void tellHeld(RuleTrees x, List<Integer> told) {
        for (int what = 0; what <= 5; what++) {
            told.add(x.count(what));
        }
        told.add(x.place());
        // The latest ones only: an object with thirty rules would else be asked too often.
        for (int rule = Math.max(0, x.count(2) - 5); rule < x.count(2); rule++) {
            tellRule(x, rule, told);
        }
    }

    private static void tellRule(RuleTrees x, int rule, List<Integer> told) {
        for (int what = 0; what <= 2; what++) {
            told.add(x.about(rule, what));
        }
        for (int k = 0; k < x.about(rule, 1); k++) {
            told.add(x.symbol(rule, k));
        }
    }

    private static void tellTrees(RuleTrees x, List<Integer> told) {
        int length = x.count(3);
        for (int sort = 0; sort < Math.min(x.count(0), 2); sort++) {
            told.add(x.trees(sort, 0, length));
            for (int at = 0; at < length; at++) {
                told.add(x.trees(sort, at, at + 1));
            }
            told.add(x.size(sort, 0));
            told.add(x.size(sort, 1));
            told.add(x.code(sort, 0, 0));
            told.add(x.shortest(sort));
        }
    }
}
