/** The terms of doing, step by step, where nothing clashes or changes. */
final class DoingSentences {
    private DoingSentences() {
    }

    static void hold(Sentences sentences) {
        sentences.terms("DOING an ASPECT for a TARGET with a SETTING (0 .. 15;",
                DoingSentences::sixteenSettings);
        sentences.terms("an ALIAS: for what it STANDS FOR in the end",
                DoingSentences::aliasesAreDoneAtTheirEnd);
        sentences.terms("with its memory: once done, it is DONE till something changes)",
                DoingSentences::onceDoneItIsDone);
        sentences.terms("(1) each ASPECT that it NEEDS is DONE for the TARGET with that SETTING, "
                + "in order.", DoingSentences::needsAreDoneFirst);
        sentences.terms("(2) It is PASSED, if a PROVIDER that it WANTS isn't the TARGET's",
                DoingSentences::passedWithoutAProvider);
        sentences.terms("nor GIVEN by one that it NEEDS and that wasn't PASSED.",
                DoingSentences::needsGiveProviders);
        sentences.terms("(3) It is DONE for each TARGET of the ATTRIBUTES that it goes ALONG, by "
                + "ATTRIBUTES, then as they lie, with that SETTING.", DoingSentences::rowsAreDone);
        sentences.terms("(5) its RESULT is: KIND 0: VALUE + SETTING, and all PARTS.",
                DoingSentences::kindSum);
        sentences.terms("1: the greatest of VALUE + SETTING and the PARTS.",
                DoingSentences::kindGreatest);
        sentences.terms("2: x is VALUE + SETTING at first; for each PART x = 31 x + it.",
                DoingSentences::kindMixed);
        sentences.terms("3: 1 more than the PARTS of (3) together.", DoingSentences::kindCounting);
        sentences.terms("(All modulo 2 to the 64; the greatest as signed.)",
                DoingSentences::resultsWrap);
        sentences.terms("PARTS are the RESULTS of (3), as they came, then those of (1)",
                DoingSentences::partsFromBelowThenFromNeeds);
        sentences.terms("of such as were PASSED none.", DoingSentences::passedPartsAreNone);
    }

    private static void sixteenSettings(Checks checks) {
        AspectWalk walk = Start.chain(2);
        walk.aspect(0, 1, 0, 0, -1);
        for (int setting = 0; setting < 16; setting++) {
            checks.due("state before", walk.state(1, 0, setting), -1);
            checks.given(walk, 1, 0, setting, 2 + 2 * setting);
        }
        for (int setting = 0; setting < 16; setting++) {
            checks.due("result behind", walk.result(1, 0, setting), 2 + 2 * setting);
            checks.due("result below", walk.result(0, 0, setting), 1 + setting);
        }
        for (int none : Start.outside(0, 15)) {
            checks.due("setting " + none, walk.apply(1, 0, none), -1);
        }
        checks.due("done()", walk.done(), 32);
    }

    private static void aliasesAreDoneAtTheirEnd(Checks checks) {
        AspectWalk walk = Start.targets(1);
        for (int number = 1; number < 19; number++) {
            walk.alias(number - 1);
        }
        walk.target(100, 0);
        walk.add(19, 0, 18);
        walk.add(19, 0, 9);
        walk.aspect(0, 1, 0, 0, 0);
        checks.given(walk, 18, 0, 2, 3);
        checks.given(walk, 0, 0, 2, 3);
        checks.given(walk, 19, 0, 2, 108);
        checks.due("worked(0, 0)", walk.worked(0, 0), 1);
        checks.due("done()", walk.done(), 2);
    }

    private static void onceDoneItIsDone(Checks checks) {
        AspectWalk walk = Start.chain(3);
        walk.aspect(0, 0, 0, 0, 1);
        walk.aspect(0, 1, 0, 0, -1);
        walk.need(1, 0);
        checks.due("apply(1, 1, 0)", walk.apply(1, 1, 0), 1);
        for (int i = 0; i < 3; i++) {
            checks.due("apply(2, 1, 0)", walk.apply(2, 1, 0), 1);
        }
        walk.target(5, 0);
        walk.alias(3);
        walk.aspect(0, 7, 0, 0, 1);
        walk.need(2, 1);
        for (int target = 0; target < 3; target++) {
            checks.due("worked(" + target + ", 0)", walk.worked(target, 0), 1);
            checks.due("worked(" + target + ", 1)", walk.worked(target, 1), 1);
        }
        checks.due("done() behind new ones", walk.done(), 6);
        checks.due("state(3, 1, 0)", walk.state(3, 1, 0), -1);
        checks.due("state(2, 2, 0)", walk.state(2, 2, 0), -1);
        checks.due("maker(2, 1)", walk.maker(2, 1), 0);
    }

    private static void needsAreDoneFirst(Checks checks) {
        AspectWalk walk = Start.chain(2);
        walk.aspect(0, 0, 0, 0, -1);
        walk.aspect(0, 1, 0, 0, 4);
        walk.aspect(0, 1, 1, 0, -1);
        walk.need(2, 0);
        walk.need(2, 1);
        checks.passed(walk, 1, 2, 3);
        checks.dueStates("what it needs", walk, 0, 3, -1, 1);
        checks.dueStates("what it needs, along its rows", walk, 1, 3, 1, 1);
        checks.dueStates("itself", walk, 2, 3, -1, 0);
        checks.due("another setting", walk.state(1, 0, 0), -1);
        checks.due("result(1, 0, 3)", walk.result(1, 0, 3), 4);
        // With setting 5 the second need clashes: then only the one before it is done.
        checks.due("apply(1, 2, 5)", walk.apply(1, 2, 5), -2);
        checks.due("the need before", walk.state(1, 0, 5), 1);
        walk.aspect(0, 0, 0, 0, -1);
        walk.need(3, 1);
        walk.need(3, 0);
        checks.due("apply(1, 3, 6)", walk.apply(1, 3, 6), -2);
        checks.due("the need behind", walk.state(1, 0, 6), -1);
        checks.due("apply(1, 3, 3)", walk.apply(1, 3, 3), 1);
    }

    private static void passedWithoutAProvider(Checks checks) {
        AspectWalk walk = new AspectWalk();
        walk.target(1, 0);
        walk.target(1, 0x7f);
        walk.target(1, 0xfe);
        walk.target(1, 0xff);
        walk.add(3, 0, 2);
        walk.aspect(0, 0, 0, 0, -1);
        walk.aspect(0, 1, 0xff, 0xff, 4);
        checks.given(walk, 0, 0, 0, 1);
        for (int target = 0; target < 3; target++) {
            checks.passed(walk, target, 1, 0);
        }
        checks.given(walk, 3, 1, 0, 1);
        checks.dueMakers("what is passed makes nothing", walk, 4, -1, -1, -1, 1);
        AspectWalk above = Start.chain(2);
        above.change(0, 1, 1);
        above.aspect(0, 1, 1, 0, -1);
        checks.passed(above, 1, 0, 0);
        checks.due("below what is passed", above.state(0, 0, 0), -1);
    }

    private static void needsGiveProviders(Checks checks) {
        AspectWalk walk = new AspectWalk();
        walk.target(1, 1);
        walk.target(2, 0);
        walk.aspect(0, 0, 0, 2, -1);
        walk.aspect(0, 0, 1, 0x84, -1);
        walk.aspect(0, 0, 0x87, 0, -1);
        checks.passed(walk, 0, 2, 0);
        walk.need(2, 0);
        checks.passed(walk, 0, 2, 0);
        walk.need(2, 1);
        checks.given(walk, 0, 2, 0, 3);
        walk.aspect(0, 0, 4, 0, -1);
        walk.need(3, 1);
        checks.given(walk, 0, 3, 0, 2);
        checks.passed(walk, 1, 3, 0);
        checks.due("the need that was passed", walk.state(1, 1, 0), 0);
        walk.aspect(0, 0, 2, 2, -1);
        checks.passed(walk, 1, 4, 0);
        walk.need(4, 0);
        checks.given(walk, 1, 4, 0, 4);
        walk.aspect(0, 0, 0, 0, -1);
        walk.aspect(0, 0, 2, 0, -1);
        walk.need(5, 0);
        walk.need(6, 5);
        checks.passed(walk, 1, 6, 0);
        walk.need(6, 4);
        checks.given(walk, 1, 6, 0, 10);
    }

    private static void rowsAreDone(Checks checks) {
        AspectWalk walk = new AspectWalk();
        for (int value = 1; value <= 12; value++) {
            walk.target(value, 0);
        }
        walk.target(0, 0);
        walk.aspect(2, 7, 0, 0, -1);
        walk.aspect(2, 0, 0, 0, -1);
        checks.given(walk, 12, 0, 0, 0);
        checks.due("empty rows", walk.done(), 1);
        // From the last attribute to the first, and from the last target to the first.
        for (int i = 0; i < 12; i++) {
            walk.add(12, 2 - i / 4, 11 - i);
        }
        long expected = 3;
        for (int value : new int[] {4, 3, 2, 1, 8, 7, 6, 5, 12, 11, 10, 9}) {
            expected = 31 * expected + value + 3;
        }
        checks.given(walk, 12, 0, 3, expected);
        checks.due("full rows", walk.done(), 13);
        checks.due("state(0, 0, 3)", walk.state(0, 0, 3), 1);
        checks.due("another setting", walk.state(0, 0, 0), -1);
        checks.given(walk, 12, 1, 3, 3);
        checks.due("along none", walk.done(), 14);
    }

    /** 2 has 0 and 1 in its row 0; aspect 1 needs aspect 0, which goes nowhere. */
    private static AspectWalk small(int kind) {
        AspectWalk walk = new AspectWalk();
        walk.target(3, 0);
        walk.target(-50, 0);
        walk.target(7, 0);
        walk.add(2, 0, 0);
        walk.add(2, 0, 1);
        walk.aspect(0, 0, 0, 0, -1);
        walk.aspect(kind, 1, 0, 0, -1);
        walk.need(1, 0);
        return walk;
    }

    private static void kindSum(Checks checks) {
        AspectWalk walk = small(0);
        checks.given(walk, 0, 0, 15, 18);
        checks.given(walk, 0, 1, 2, 5 + 5);
        checks.given(walk, 2, 1, 2, 9 + 10 - 96 + 9);
    }

    private static void kindGreatest(Checks checks) {
        AspectWalk walk = small(1);
        checks.given(walk, 1, 1, 2, -48);
        checks.given(walk, 2, 1, 2, 9);
        walk.change(1, 11, 0);
        checks.given(walk, 2, 1, 2, 13);
        AspectWalk needing = Start.chain(2);
        needing.aspect(0, 1, 0, 0, -1);
        needing.aspect(1, 1, 0, 0, -1);
        needing.need(1, 0);
        checks.given(needing, 1, 1, 4, 10);
        AspectWalk alone = Start.targets(1);
        alone.aspect(1, 7, 0, 0, -1);
        checks.given(alone, 0, 0, 15, 16);
    }

    private static void kindMixed(Checks checks) {
        AspectWalk walk = small(2);
        checks.given(walk, 0, 1, 2, 31 * 5 + 5);
        checks.given(walk, 1, 1, 2, 31 * -48 - 48);
        long expected = 9;
        expected = 31 * expected + 160;
        expected = 31 * expected - 32 * 48;
        expected = 31 * expected + 9;
        checks.given(walk, 2, 1, 2, expected);
        AspectWalk alone = Start.targets(1);
        alone.aspect(2, 7, 0, 0, -1);
        checks.given(alone, 0, 0, 15, 16);
    }

    private static void kindCounting(Checks checks) {
        AspectWalk walk = small(3);
        checks.given(walk, 0, 1, 15, 1);
        checks.given(walk, 2, 1, 15, 3);
        checks.due("the need is done", walk.state(2, 0, 15), 1);
    }

    private static void resultsWrap(Checks checks) {
        AspectWalk walk = new AspectWalk();
        walk.target(Long.MAX_VALUE, 0);
        walk.target(Long.MAX_VALUE, 0);
        walk.add(1, 0, 0);
        walk.aspect(0, 1, 0, 0, -1);
        walk.aspect(1, 1, 0, 0, -1);
        walk.aspect(2, 1, 0, 0, -1);
        checks.given(walk, 1, 0, 0, -2);
        checks.given(walk, 0, 0, 1, Long.MIN_VALUE);
        checks.given(walk, 1, 0, 1, 0);
        checks.given(walk, 1, 1, 0, Long.MAX_VALUE);
        checks.given(walk, 1, 1, 1, Long.MIN_VALUE);
        checks.given(walk, 1, 2, 0, 31 * Long.MAX_VALUE + Long.MAX_VALUE);
        walk.change(0, -1, 0);
        walk.change(1, Long.MIN_VALUE, 0);
        checks.given(walk, 1, 1, 0, -1);
        walk.change(1, 1, 0);
        checks.given(walk, 1, 1, 0, 1);
        countWraps(checks);
    }

    /** Twelve parts a step, nineteen steps: more than 2 to the 64. */
    private static void countWraps(Checks checks) {
        AspectWalk walk = Start.targets(20);
        for (int target = 1; target < 20; target++) {
            for (int i = 0; i < 12; i++) {
                walk.add(target, i % 3, target - 1);
            }
        }
        for (int aspect = 0; aspect < 8; aspect++) {
            walk.aspect(3, 7, 0, 0, aspect);
            // The nearest first, so that the first way down goes through all aspects.
            for (int other = aspect - 1; other >= 0 && other >= aspect - 3; other--) {
                walk.need(aspect, other);
            }
        }
        long expected = 1;
        for (int target = 1; target < 20; target++) {
            expected = 1 + 12 * expected;
        }
        checks.given(walk, 19, 7, 15, expected);
        checks.due("done()", walk.done(), 160);
        checks.due("worked(0, 0)", walk.worked(0, 0), 1);
    }

    private static void partsFromBelowThenFromNeeds(Checks checks) {
        AspectWalk walk = new AspectWalk();
        walk.target(2, 0);
        walk.target(3, 0);
        walk.add(1, 0, 0);
        walk.aspect(0, 0, 0, 0, -1);
        walk.aspect(3, 0, 0, 0, -1);
        walk.aspect(2, 1, 0, 0, -1);
        walk.need(2, 1);
        walk.need(2, 0);
        long below = 31 * (31 * 2 + 1) + 2;
        checks.given(walk, 0, 2, 0, below);
        checks.given(walk, 1, 2, 0, 31 * (31 * (31 * 3 + below) + 1) + 3);
    }

    private static void passedPartsAreNone(Checks checks) {
        AspectWalk walk = new AspectWalk();
        walk.target(100, 0);
        walk.target(3, 1);
        walk.target(5, 1);
        walk.target(-7, 1);
        walk.add(2, 0, 0);
        walk.add(2, 0, 1);
        walk.add(3, 0, 0);
        for (int kind = 0; kind < 4; kind++) {
            walk.aspect(kind, 1, 1, 0, -1);
        }
        long[] given = {8, 5, 31 * 5 + 3, 2};
        long[] givenAlone = {-7, -7, -7, 1};
        for (int kind = 0; kind < 4; kind++) {
            checks.given(walk, 2, kind, 0, given[kind]);
            checks.given(walk, 3, kind, 0, givenAlone[kind]);
            checks.due("state(0, " + kind + ", 0)", walk.state(0, kind, 0), 0);
        }
        walk.aspect(0, 0, 2, 0, -1);
        walk.aspect(2, 0, 0, 0, -1);
        walk.need(5, 4);
        checks.given(walk, 2, 5, 0, 5);
        checks.due("the need that was passed", walk.state(2, 4, 0), 0);
    }
}
