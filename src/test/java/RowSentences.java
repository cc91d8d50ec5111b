/** Promise 5, with the terms of attributes and their rows. */
final class RowSentences {
    private RowSentences() {
    }

    static void hold(Sentences sentences) {
        sentences.terms("and three ATTRIBUTES (0 .. 2)", RowSentences::threeAttributes);
        sentences.terms("rows of at most 4 TARGETS", RowSentences::rowsHoldFour);
        sentences.terms("with lesser numbers each", RowSentences::rowsHoldLesserNumbers);
        sentences.terms("(one may be there twice)", RowSentences::oneIsThereTwice);
        sentences.promise(5, "Another TARGET (other; also an ALIAS) comes at the end of an "
                + "ATTRIBUTE of a TARGET (target): true", RowSentences::addComesAtTheEnd);
        sentences.promise(5, "(CHANGING target)", RowSentences::addChangesTarget);
        sentences.promise(5, "false if there are none such", RowSentences::addOfNoneSuch);
        sentences.promise(5, "target is an ALIAS", RowSentences::addToAnAlias);
        sentences.promise(5, "other isn't less than target", RowSentences::addOfOneNotLess);
        sentences.promise(5, "or there are 4 in that row.", RowSentences::addToAFullRow);
    }

    private static void threeAttributes(Checks checks) {
        AspectWalk walk = new AspectWalk();
        for (int value = 1; value <= 1000; value *= 10) {
            walk.target(value, 0);
        }
        for (int none : Start.outside(0, 2)) {
            checks.due("add(3, " + none + ", 0)", walk.add(3, none, 0), false);
        }
        for (int attribute = 0; attribute < 3; attribute++) {
            checks.due("add(3, " + attribute + ")", walk.add(3, attribute, attribute), true);
            walk.aspect(0, 1 << attribute, 0, 0, -1);
        }
        checks.given(walk, 3, 0, 0, 1001);
        checks.given(walk, 3, 1, 0, 1010);
        checks.given(walk, 3, 2, 0, 1100);
    }

    private static void rowsHoldFour(Checks checks) {
        AspectWalk walk = new AspectWalk();
        walk.target(1, 0);
        walk.target(100, 0);
        walk.target(1000, 0);
        walk.aspect(0, 7, 0, 0, -1);
        for (int attribute = 2; attribute >= 0; attribute--) {
            for (int i = 0; i < 4; i++) {
                checks.due("place " + i, walk.add(1, attribute, 0), true);
            }
            checks.due("a fifth place", walk.add(1, attribute, 0), false);
        }
        checks.given(walk, 1, 0, 0, 112);
        checks.due("another target's row", walk.add(2, 0, 0), true);
        checks.given(walk, 2, 0, 0, 1001);
        checks.given(walk, 1, 0, 0, 112);
        lastTargetsRowsHoldFour(checks);
    }

    private static void lastTargetsRowsHoldFour(Checks checks) {
        AspectWalk walk = Start.targets(20);
        walk.aspect(0, 7, 0, 0, -1);
        for (int i = 0; i < 15; i++) {
            checks.due("add " + i + " to 19", walk.add(19, i % 3, 18 - i), i < 12);
        }
        checks.given(walk, 19, 0, 0, 13);
    }

    private static void rowsHoldLesserNumbers(Checks checks) {
        AspectWalk walk = Start.targets(20);
        walk.aspect(0, 7, 0, 0, -1);
        for (int target = 0; target < 20; target++) {
            checks.due(target + " in its own row", walk.add(target, 1, target), false);
            checks.due("the next in " + target, walk.add(target, 1, target + 1), false);
            checks.due("the one before in " + target, walk.add(target, 1, target - 1), target > 0);
        }
        checks.due("the greatest in the least", walk.add(0, 1, 19), false);
        checks.due("the least in the greatest", walk.add(19, 1, 0), true);
        checks.given(walk, 19, 0, 0, 21);
    }

    private static void oneIsThereTwice(Checks checks) {
        AspectWalk walk = new AspectWalk();
        walk.target(1, 0);
        walk.target(10, 0);
        checks.due("once", walk.add(1, 1, 0), true);
        checks.due("twice", walk.add(1, 1, 0), true);
        checks.due("in another row too", walk.add(1, 2, 0), true);
        walk.aspect(0, 6, 0, 0, 0);
        walk.aspect(3, 6, 0, 0, -1);
        checks.given(walk, 1, 0, 0, 13);
        checks.given(walk, 1, 1, 0, 4);
        checks.due("worked(0, 0)", walk.worked(0, 0), 1);
        checks.due("done()", walk.done(), 4);
    }

    private static void addComesAtTheEnd(Checks checks) {
        AspectWalk walk = new AspectWalk();
        for (int value = 1; value < 5; value++) {
            walk.target(value, 0);
        }
        checks.due("alias(2)", walk.alias(2), 4);
        walk.target(0, 0);
        int[] others = {3, 4, 0, 1};
        long expected = 0;
        walk.aspect(2, 2, 0, 0, -1);
        for (int other : others) {
            checks.due("add(5, 1, " + other + ")", walk.add(5, 1, other), true);
            expected = 31 * expected + (other == 4 ? 3 : other + 1);
            checks.given(walk, 5, 0, 0, expected);
        }
    }

    private static void addChangesTarget(Checks checks) {
        AspectWalk walk = Start.chain(4);
        walk.aspect(0, 1, 0, 0, 0);
        walk.aspect(0, 0, 1, 0, -1);
        for (int target = 0; target < 4; target++) {
            walk.apply(target, 0, 9);
            walk.apply(target, 1, 9);
        }
        checks.due("add(2, 2, 0)", walk.add(2, 2, 0), true);
        checks.dueStates("behind it", walk, 0, 9, 1, 1, -1, -1);
        checks.dueStates("behind it", walk, 1, 9, 0, 0, -1, -1);
        checks.dueMakers("behind it", walk, 0, 0, 0, -1, -1);
        checks.due("done()", walk.done(), 2);
    }

    private static void addOfNoneSuch(Checks checks) {
        AspectWalk walk = Start.busy();
        String before = Look.at(walk);
        for (int none : Start.outside(0, 3)) {
            checks.due("add(" + none + ", 0, 0)", walk.add(none, 0, 0), false);
            checks.due("add(3, 0, " + none + ")", walk.add(3, 0, none), false);
        }
        for (int none : Start.outside(0, 2)) {
            checks.due("add(3, " + none + ", 0)", walk.add(3, none, 0), false);
        }
        checks.unchanged("behind them", walk, before);
        dueBusyRows(checks, walk);
    }

    /** A change has the sums made anew, from rows that no refused call has touched. */
    private static void dueBusyRows(Checks checks, AspectWalk walk) {
        walk.change(0, 2, 0);
        walk.change(1, 20, 0);
        checks.given(walk, 0, 0, 0, 2);
        checks.given(walk, 1, 0, 0, 20);
        checks.given(walk, 3, 0, 0, 122);
    }

    private static void addToAnAlias(Checks checks) {
        AspectWalk walk = Start.busy();
        walk.alias(3);
        String before = Look.at(walk);
        checks.due("add(2, 0, 0)", walk.add(2, 0, 0), false);
        checks.due("add(2, 1, 1)", walk.add(2, 1, 1), false);
        checks.due("add(4, 2, 0)", walk.add(4, 2, 0), false);
        checks.due("add(4, 2, 2)", walk.add(4, 2, 2), false);
        checks.unchanged("behind them", walk, before);
        dueBusyRows(checks, walk);
    }

    private static void addOfOneNotLess(Checks checks) {
        AspectWalk walk = Start.busy();
        String before = Look.at(walk);
        checks.due("itself, the least", walk.add(0, 0, 0), false);
        checks.due("itself, the greatest", walk.add(3, 1, 3), false);
        checks.due("one more", walk.add(0, 2, 1), false);
        checks.due("a greater alias of itself", walk.add(0, 0, 2), false);
        checks.due("a greater alias of a lesser one", walk.add(1, 0, 2), false);
        checks.due("the greatest", walk.add(1, 0, 3), false);
        checks.unchanged("behind them", walk, before);
        dueBusyRows(checks, walk);
    }

    private static void addToAFullRow(Checks checks) {
        AspectWalk walk = Start.busy();
        checks.due("the third", walk.add(3, 0, 0), true);
        checks.due("the fourth", walk.add(3, 0, 2), true);
        checks.given(walk, 3, 0, 0, 113);
        String before = Look.at(walk);
        for (int other : new int[] {0, 2, 1}) {
            checks.due("add(3, 0, " + other + ")", walk.add(3, 0, other), false);
        }
        checks.unchanged("behind them", walk, before);
        checks.due("add(3, 1, 1)", walk.add(3, 1, 1), true);
        checks.given(walk, 3, 0, 0, 123);
    }
}
