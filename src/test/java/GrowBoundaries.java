import java.util.Arrays;

/**
 * The boundary cases of rows that grow from codes, and of the place of a code that is not as it
 * must be. Each one is named by the document's words and has a test of its own.
 */
public final class GrowBoundaries extends TestKit {
    private GrowBoundaries() {
    }

    private static RuleTrees small() {
        RuleTrees x = items();
        row(x, 4, 0, 3);
        return x;
    }

    /** One sort: a part twice (rule 0), 1 1 1 (rule 1), a part and a 2 (rule 2), two parts (rule 3). */
    private static RuleTrees doubling() {
        RuleTrees x = withSorts(1);
        x.variable(0);
        x.variable(0);
        rule(x, 0, -1, -1);
        rule(x, 0, 1, 1, 1);
        rule(x, 0, -1, 2);
        rule(x, 0, -1, -2);
        return x;
    }

    private static RuleTrees typed(RuleTrees x, int... codes) {
        tape(x, codes);
        return x;
    }

    /** The codes on the small object: what grow() tells, the place, and that row and tape stay. */
    private static void fault(int sort, int told, int place, int... codes) {
        String of = " of " + Arrays.toString(codes);
        RuleTrees x = typed(small(), codes);
        due("grow(" + sort + ")" + of, x.grow(sort), told);
        due("place()" + of, x.place(), place);
        due("count(3)" + of, x.count(3), 3);
        due("count(4)" + of, x.count(4), codes.length);
        dueCodes("the row's tree" + of, codes(x, 0, 0), 0, 2, 4, 2, 3);
    }

    // Promise 15: the row grows.

    private static void growALeaf() {
        RuleTrees x = typed(small(), -2);
        due("grow(1)", x.grow(1), 0);
        due("count(3): a shorter row than before", x.count(3), 1);
        dueCodes("the leaf", codes(x, 1, 0), -2);
        due("count(4): the tape stays", x.count(4), 1);
        due("trees(0, 0, 3): nothing is left of the old row", x.trees(0, 0, 3), NONE);
    }

    private static void growFromTheEmptyRow() {
        RuleTrees x = typed(small(), 0, 1, 2, 4, -3);
        x.drop();
        due("grow(0)", x.grow(0), 0);
        due("count(3)", x.count(3), 5);
        dueCodes("the tree of the row", codes(x, 0, 0), 0, 1, 2, 4, -3);
        due("token(0) goes on behind it", x.token(0), 6);
    }

    private static void growTwelve() {
        RuleTrees x = typed(doubling(), 0, 0, 1);
        due("grow(0)", x.grow(0), 0);
        due("count(3)", x.count(3), 12);
        due("token(1): the row is full", x.token(1), NONE);
        due("trees(0, 9, 12)", x.trees(0, 9, 12), 1);
        dueCodes("the least tree", codes(x, 0, 0), 0, 0, 1);
    }

    /** All twelve leaves wait until the eleven rules before them take them up. */
    private static void growTwelveLeaves() {
        int[] codes = new int[23];
        for (int k = 0; k < codes.length; k++) {
            codes[k] = k < 11 ? 3 : k % 2 == 0 ? -1 : -2;
        }
        RuleTrees x = typed(doubling(), codes);
        due("grow(0)", x.grow(0), 0);
        due("count(3)", x.count(3), 12);
        due("trees(0, 0, 1)", x.trees(0, 0, 1), 1);
        due("trees(0, 11, 12)", x.trees(0, 11, 12), 1);
        due("stretches(0, 0)", x.stretches(0, 0), 0);
    }

    private static void growTwelveByTwoParts() {
        RuleTrees x = typed(doubling(), 3, 0, 1, 0, 1);
        due("grow(0) of 6 and 6 symbols", x.grow(0), 0);
        due("count(3)", x.count(3), 12);
        x = typed(doubling(), 3, 0, 1, 2, 0, 1);
        due("grow(0) of 6 and 7 symbols", x.grow(0), 5);
        x = typed(doubling(), 3, 2, 0, 1, 0, 1);
        due("grow(0) of 7 and 6 symbols", x.grow(0), 5);
        x = typed(doubling(), 3, 0, 0, 1, -1);
        due("grow(0) of 12 symbols and 1", x.grow(0), 5);
        x = typed(doubling(), 3, -1, 0, 0, 1);
        due("grow(0) of 1 symbol and 12", x.grow(0), 5);
        due("count(3)", x.count(3), 0);
    }

    private static void growFullTape() {
        RuleTrees x = withVariables(1);
        rule(x, 0, -1);
        int[] codes = times(200, 0);
        codes[199] = -1;
        tape(x, codes);
        due("grow(0) of 200 codes", x.grow(0), 0);
        due("count(3)", x.count(3), 1);
        due("place()", x.place(), NONE);
        dueCodes("the row is the leaf", codes(x, 0, 0), -1);
    }

    private static void growTwice() {
        RuleTrees x = typed(small(), 2, 3);
        due("grow(0)", x.grow(0), 0);
        due("grow(0) again", x.grow(0), 0);
        due("count(3)", x.count(3), 1);
        due("trees(1, 0, 1)", x.trees(1, 0, 1), 1);
    }

    private static void growPartsInOrder() {
        RuleTrees x = withVariables(3);
        rule(x, 0, -3, 7, -2, -3);
        rule(x, 1, 1);
        rule(x, 2, 2, 2);
        tape(x, 0, 2, 1);
        due("grow(0)", x.grow(0), 0);
        due("count(3)", x.count(3), 6);
        due("trees(2, 0, 2)", x.trees(2, 0, 2), 1);
        due("trees(1, 3, 4)", x.trees(1, 3, 4), 1);
        due("trees(2, 4, 6)", x.trees(2, 4, 6), 1);
        tape(x, 0, 1, 2);
        due("grow(0) with the parts the other way round", x.grow(0), 3);
        due("place()", x.place(), 1);
    }

    // Promise 15: the codes that are not as they must be.

    private static void codeNotThere() {
        fault(0, 1, 0);
        fault(1, 1, 0);
        fault(0, 1, 1, 0);
        fault(0, 1, 2, 0, -1);
        fault(0, 1, 3, 0, 2, 3);
        fault(0, 1, 1, 2);
    }

    private static void codeNotThereOnTheFullTape() {
        RuleTrees x = withSorts(1);
        for (int k = 0; k < 4; k++) {
            x.variable(0);
        }
        rule(x, 0, -1, -2, -3, -4);
        tape(x, times(200, 0));
        due("grow(0)", x.grow(0), 1);
        due("place()", x.place(), 200);
        // Only a rule's first part is of sort 0, so no code may forget which part comes next.
        x = withSorts(2);
        for (int sort : new int[] {0, 1, 1, 1}) {
            x.variable(sort);
        }
        rule(x, 0, -1, -2, -3, -4);
        tape(x, times(200, 0));
        due("grow(0) with parts of another sort", x.grow(0), 1);
        due("place() with parts of another sort", x.place(), 200);
    }

    private static void noSuchRule() {
        fault(0, 2, 0, 5);
        fault(0, 2, 0, 30);
        fault(0, 2, 0, GREATEST_INT);
        fault(0, 2, 1, 2, 5);
        fault(1, 2, 0, 5, 5);
    }

    private static void noSuchVariable() {
        fault(0, 2, 0, -4);
        fault(0, 2, 0, NOTHING);
        fault(0, 2, 0, LEAST_INT);
        fault(0, 2, 2, 0, -3, -4);
    }

    private static void noSuchRuleYet() {
        RuleTrees x = typed(small(), 5);
        x.begin(0);
        x.put(9);
        due("grow(0) before close()", x.grow(0), 2);
        x.close();
        due("grow(0) behind close()", x.grow(0), 0);
        x = typed(small(), -4);
        due("grow(1) before variable(1)", x.grow(1), 2);
        x.variable(1);
        due("grow(1) behind variable(1)", x.grow(1), 0);
    }

    private static void ofAnotherSort() {
        fault(0, 3, 0, 3);
        fault(0, 3, 0, -2);
        fault(1, 3, 0, 0);
        fault(1, 3, 0, -3);
        fault(0, 3, 1, 2, -1);
        fault(0, 3, 2, 0, -3, 4);
    }

    private static void behindTheTree() {
        fault(0, 4, 1, -1, -1);
        fault(0, 4, 1, -1, 77);
        fault(0, 4, 2, 2, 3, LEAST_INT, 5);
        fault(1, 4, 1, 4, 0);
        RuleTrees x = withVariables(1);
        rule(x, 0, -1);
        int[] codes = times(200, 0);
        codes[198] = -1;
        tape(x, codes);
        due("grow(0): the last code of a full tape", x.grow(0), 4);
        due("place()", x.place(), 199);
    }

    private static void theFirstOfSeveral() {
        fault(0, 2, 1, 1, 9, 3);
        fault(0, 3, 1, 1, 3, 9);
        fault(0, 2, 2, 0, -1, 9);
        fault(0, 3, 1, 0, 4);
        fault(0, 4, 1, -3, 0, 3, 9);
    }

    private static void moreThanTwelve() {
        int[][] longer = {{2, 0, 0, 1}, {0, 0, 0, 1}, {0, 2, 2, 2, 2, 2, 2, -1}};
        for (int[] codes : longer) {
            RuleTrees x = typed(doubling(), codes);
            row(x, 1, 1, 1);
            due("grow(0) of " + Arrays.toString(codes), x.grow(0), 5);
            due("place()", x.place(), NONE);
            due("count(3)", x.count(3), 3);
            due("count(4)", x.count(4), codes.length);
            dueCodes("the row's tree", codes(x, 0, 0), 1);
        }
    }

    /** A row's length that wraps around would be 0. */
    private static void farMoreThanTwelve() {
        for (int doubled : new int[] {31, 32, 64, 199}) {
            int[] codes = times(doubled + 1, 0);
            codes[doubled] = -1;
            RuleTrees x = typed(doubling(), codes);
            due("grow(0) of 2 to the " + doubled + " symbols", x.grow(0), 5);
            due("count(3)", x.count(3), 0);
        }
    }

    private static void thirteenLeaves() {
        int[] codes = times(25, 3);
        Arrays.fill(codes, 12, 25, -1);
        due("grow(0) of 13 leaves", typed(doubling(), codes).grow(0), 5);
        codes = times(199, 3);
        Arrays.fill(codes, 99, 199, -1);
        due("grow(0) of 100 leaves", typed(doubling(), codes).grow(0), 5);
    }

    private static void moreThanTwelveComesLast() {
        int[][] faulty = {{2, 0, 0, 1, 1}, {3, 0, 0, 0, 1}, {3, 0, 0, 0, 1, 9}};
        int[] told = {4, 1, 2};
        for (int k = 0; k < faulty.length; k++) {
            RuleTrees x = typed(doubling(), faulty[k]);
            due("grow(0) of " + Arrays.toString(faulty[k]), x.grow(0), told[k]);
        }
    }

    private static RuleTrees smallWithFault() {
        RuleTrees x = typed(small(), 0, -1, -2);
        x.grow(0);
        return typed(x, 2, 3);
    }

    private static void growOfNoSort() {
        for (int sort : new int[] {2, -1, 6, LEAST_INT, GREATEST_INT}) {
            refused("grow(" + sort + ")", NONE, GrowBoundaries::smallWithFault, x -> x.grow(sort));
        }
        RuleTrees x = smallWithFault();
        x.grow(2);
        due("place(): that of the grow() before", x.place(), 2);
        due("grow(0) without sorts", new RuleTrees().grow(0), NONE);
    }

    // Promise 16.

    private static void placeWithoutGrow() {
        due("place() of a new object", new RuleTrees().place(), NONE);
        RuleTrees x = typed(small(), 9, 9);
        due("place() before grow()", x.place(), NONE);
        x.grow(2);
        due("place() behind a grow() of no sort", x.place(), NONE);
        x.check();
        due("place() behind check()", x.place(), NONE);
    }

    private static void placeOfTheLatest() {
        RuleTrees x = typed(small(), 0, 3);
        x.grow(0);
        due("place() of the first", x.place(), 1);
        x.grow(1);
        due("place() of the latest", x.place(), 0);
        x.grow(-1);
        due("place() behind a grow() of no sort", x.place(), 0);
        x.grow(0);
        due("place() of the latest", x.place(), 1);
    }

    private static void placeAfterNoFault() {
        RuleTrees x = typed(small(), 2, 3, 3);
        x.grow(0);
        due("place() behind 4", x.place(), 2);
        tape(x, 2, 3);
        due("grow(0)", x.grow(0), 0);
        due("place() behind 0", x.place(), NONE);
        x.grow(5);
        due("place() behind 0 and a grow() of no sort", x.place(), NONE);
        tape(x);
        due("grow(0) of the empty tape", x.grow(0), 1);
        due("place() behind 1", x.place(), 0);
        x = typed(doubling(), 9);
        x.grow(0);
        due("place() behind 2", x.place(), 0);
        tape(x, 0, 0, 0, 1);
        due("grow(0)", x.grow(0), 5);
        due("place() behind 5", x.place(), NONE);
    }

    private static void placeStays() {
        RuleTrees x = typed(small(), 0, -1, 4);
        x.grow(0);
        x.clear();
        due("place() behind clear()", x.place(), 2);
        x.type(1);
        x.drop();
        x.token(0);
        x.check();
        x.trees(0, 0, 1);
        due("place() behind other calls", x.place(), 2);
    }

    public static void main(String[] args) {
        sentence("Promise 15", "0, and the row is its symbols", GrowBoundaries::growALeaf);
        sentence("Promise 15", "the row is its symbols", GrowBoundaries::growFromTheEmptyRow);
        sentence("Terms", "The ROW has at most 12 symbols", GrowBoundaries::growTwelve);
        sentence("Terms", "at most 12 symbols", GrowBoundaries::growTwelveLeaves);
        sentence("Terms", "at most 12", GrowBoundaries::growTwelveByTwoParts);
        sentence("Promise 15", "The tape's codes as a tree of a sort", GrowBoundaries::growFullTape);
        sentence("Promise 15", "The tape's codes", GrowBoundaries::growTwice);
        sentence("Terms", "in the order in which these stand in it first", GrowBoundaries::growPartsInOrder);
        sentence("Promise 15", "1 it is not there", GrowBoundaries::codeNotThere);
        sentence("Promise 15", "it is not there", GrowBoundaries::codeNotThereOnTheFullTape);
        sentence("Promise 15", "2 there is no such rule", GrowBoundaries::noSuchRule);
        sentence("Promise 15", "or variable", GrowBoundaries::noSuchVariable);
        sentence("Promise 15", "there is no such rule or variable", GrowBoundaries::noSuchRuleYet);
        sentence("Promise 15", "3 it is of another sort", GrowBoundaries::ofAnotherSort);
        sentence("Promise 15", "4 it stands behind the tree", GrowBoundaries::behindTheTree);
        sentence("Promise 15", "and the row stays, by the first code that is not as it must be",
            GrowBoundaries::theFirstOfSeveral);
        sentence("Promise 15", "5 the symbols would be more than 12", GrowBoundaries::moreThanTwelve);
        sentence("Promise 15", "the symbols would be more than 12", GrowBoundaries::farMoreThanTwelve);
        sentence("Promise 15", "more than 12", GrowBoundaries::thirteenLeaves);
        sentence("Promise 15", "by the first code that is not as it must be", GrowBoundaries::moreThanTwelveComesLast);
        sentence("Promise 15", "NONE, and nothing is done, when there is no such sort", GrowBoundaries::growOfNoSort);
        sentence("Promise 16", "or there was none", GrowBoundaries::placeWithoutGrow);
        sentence("Promise 16", "in the latest grow() that was not NONE", GrowBoundaries::placeOfTheLatest);
        sentence("Promise 16", "NONE when it told 0 or 5", GrowBoundaries::placeAfterNoFault);
        sentence("Promise 16", "The number, from 0, of that code", GrowBoundaries::placeStays);
        end();
    }
}
