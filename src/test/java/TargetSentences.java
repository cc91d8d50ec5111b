/** Promises 1 to 4 and 6, with the terms of targets and aliases, and the bound of 512 calls. */
final class TargetSentences {
    private TargetSentences() {
    }

    static void hold(Sentences sentences) {
        sentences.whatItIs("An object is used for at most 512 calls after it has been made",
                TargetSentences::callsUpToThe512th);
        sentences.whatItIs("what later calls answer is free", TargetSentences::laterCallsEnd);
        holdTerms(sentences);
        sentences.promise(1, "No TARGETS", TargetSentences::newHasNoTargets);
        sentences.promise(1, "no ASPECTS.", TargetSentences::newHasNoAspects);
        sentences.promise(2, "A new TARGET: its number", TargetSentences::targetIsItsNumber);
        sentences.promise(2, "NONE if there are 20.", TargetSentences::targetIsNoneAt20);
        sentences.promise(2, "(PROVIDERS: the lowest eight bits count.)",
                TargetSentences::targetCountsEightBits);
        sentences.promise(3, "A new ALIAS: its number", TargetSentences::aliasIsItsNumber);
        sentences.promise(3, "NONE if there are 20", TargetSentences::aliasIsNoneAt20);
        sentences.promise(3, "or there is no such TARGET.", TargetSentences::aliasOfNoTarget);
        sentences.promise(4, "What a TARGET STANDS FOR in the end",
                TargetSentences::standsForTheEnd);
        sentences.promise(4, "(itself, if it is no ALIAS)", TargetSentences::standsForItself);
        sentences.promise(4, "NONE if there is none such.", TargetSentences::standsOfNoTarget);
        sentences.promise(6, "A TARGET has a VALUE and PROVIDERS from now on",
                TargetSentences::changeSetsBoth);
        sentences.promise(6, "(CHANGING, if one is another one)",
                TargetSentences::changeOfOneOrNone);
        sentences.promise(6, "false if there is none such", TargetSentences::changeOfNoTarget);
        sentences.promise(6, "or it is an ALIAS.", TargetSentences::changeOfAnAlias);
    }

    private static void holdTerms(Sentences sentences) {
        sentences.terms("TARGETS, at most 20, numbered from 0,",
                TargetSentences::targetsAndAliasesAreTwenty);
        sentences.terms("have a VALUE (64 bits)", TargetSentences::valuesHave64Bits);
        sentences.terms("(64 bits), PROVIDERS (bits 0 .. 7)", TargetSentences::eightProviders);
        sentences.terms("An ALIAS is a TARGET that STANDS FOR one with a lesser number",
                TargetSentences::aliasesAreOfLesserNumbers);
        sentences.terms("whatever is asked of it is asked of that one",
                TargetSentences::aliasesAnswerForTheirs);
        sentences.terms("(it has nothing of its own)", TargetSentences::aliasesHaveNothing);
    }

    private static void callsUpToThe512th(Checks checks) {
        AspectWalk walk = Start.targets(1);
        walk.aspect(0, 0, 0, 0, -1);
        for (int i = 1; i <= 254; i++) {
            checks.due("change, call " + (2 * i + 1), walk.change(0, i * 1000L, 0), true);
            checks.due("apply, call " + (2 * i + 2), walk.apply(0, 0, i & 15), 1);
        }
        checks.due("worked, call 511", walk.worked(0, 0), 254);
        checks.due("result, call 512", walk.result(0, 0, 254 & 15), 254_014);
        AspectWalk refusing = new AspectWalk();
        for (int i = 1; i < 512; i++) {
            checks.due("alias, call " + i, refusing.alias(0), -1);
        }
        checks.due("target, call 512", refusing.target(0, 0), 0);
    }

    /** Their answers are free, but each ends, and throws nothing of the machine's own. */
    private static void laterCallsEnd(Checks checks) {
        AspectWalk walk = Start.busy();
        int ended = 0;
        for (int i = 0; i < 200; i++) {
            walk.target(i, i);
            walk.alias(i);
            walk.stands(i);
            walk.add(i % 20, i % 4, i % 19);
            walk.change(i, i, i);
            walk.aspect(i % 5, i, i & 1, i, i % 11);
            walk.need(i % 9, i % 7);
            walk.apply(i % 21, i % 9, i % 17);
            walk.clash(i);
            walk.state(i, i % 9, i);
            Checks.thrown(walk, i % 21, i % 9, i % 17);
            walk.worked(i, i);
            walk.done();
            walk.maker(i, i);
            ended++;
        }
        checks.due("rounds of calls that ended", ended, 200);
    }

    private static void targetsAndAliasesAreTwenty(Checks checks) {
        AspectWalk walk = new AspectWalk();
        for (int number = 0; number < 20; number += 2) {
            checks.due("target", walk.target(number, 0), number);
            checks.due("alias", walk.alias(number), number + 1);
        }
        checks.due("a target beyond", walk.target(0, 0), -1);
        checks.due("an alias beyond", walk.alias(0), -1);
        checks.due("stands(19)", walk.stands(19), 18);
        checks.due("stands(20)", walk.stands(20), -1);
        walk.aspect(0, 0, 0, 0, -1);
        checks.given(walk, 19, 0, 0, 18);
    }

    private static void valuesHave64Bits(Checks checks) {
        long[] values = {Long.MIN_VALUE, Long.MAX_VALUE, -1, 0, 1L << 32, (1L << 53) + 1};
        AspectWalk walk = new AspectWalk();
        walk.aspect(0, 0, 0, 0, -1);
        for (int i = 0; i < values.length; i++) {
            walk.target(values[i], 0);
            checks.given(walk, i, 0, 0, values[i]);
            walk.change(i, ~values[i], 0);
            checks.given(walk, i, 0, 0, ~values[i]);
        }
    }

    private static void eightProviders(Checks checks) {
        AspectWalk walk = new AspectWalk();
        for (int bit = 0; bit < 8; bit++) {
            walk.target(0, 1 << bit);
            walk.aspect(0, 0, 1 << bit, 0, -1);
        }
        for (int target = 0; target < 8; target++) {
            for (int aspect = 0; aspect < 8; aspect++) {
                checks.due("provider " + target + " where " + aspect + " is wanted",
                        walk.apply(target, aspect, 0), target == aspect ? 1 : 0);
            }
        }
    }

    private static void aliasesAreOfLesserNumbers(Checks checks) {
        AspectWalk walk = Start.targets(2);
        checks.due("of its own number to be", walk.alias(2), -1);
        checks.due("of a greater number", walk.alias(3), -1);
        checks.due("of the number before", walk.alias(1), 2);
        checks.due("of its own number to be", walk.alias(3), -1);
        checks.due("of the least number", walk.alias(0), 3);
        checks.due("of an alias", walk.alias(2), 4);
        checks.due("stands(4)", walk.stands(4), 1);
    }

    private static void aliasesAnswerForTheirs(Checks checks) {
        AspectWalk walk = Start.targets(2);
        walk.alias(1);
        walk.alias(2);
        walk.aspect(0, 0, 0, 0, 3);
        walk.aspect(0, 0, 1, 0, -1);
        checks.given(walk, 3, 0, 5, 6);
        checks.passed(walk, 2, 1, 5);
        for (int target = 1; target < 4; target++) {
            checks.due("state(" + target + ", 0, 5)", walk.state(target, 0, 5), 1);
            checks.due("state(" + target + ", 1, 5)", walk.state(target, 1, 5), 0);
            checks.due("result(" + target + ", 0, 5)", walk.result(target, 0, 5), 6);
            checks.due("worked(" + target + ", 0)", walk.worked(target, 0), 1);
            checks.due("maker(" + target + ", 3)", walk.maker(target, 3), 0);
        }
        checks.due("state(0, 0, 5)", walk.state(0, 0, 5), -1);
        checks.clashed(walk, 3, 0, 6, 1, 0, 6, 0, 5);
    }

    private static void aliasesHaveNothing(Checks checks) {
        AspectWalk walk = Start.targets(1);
        walk.alias(0);
        walk.aspect(0, 7, 0, 0, -1);
        checks.due("a row of its own", walk.add(1, 0, 0), false);
        checks.due("a value of its own", walk.change(1, 5, 1), false);
        checks.given(walk, 1, 0, 0, 1);
        checks.given(walk, 0, 0, 0, 1);
        checks.due("done()", walk.done(), 1);
        checks.due("worked(0, 0)", walk.worked(0, 0), 1);
        walk.change(0, 7, 0);
        checks.due("state(1, 0, 0)", walk.state(1, 0, 0), -1);
        checks.given(walk, 1, 0, 0, 7);
    }

    private static void newHasNoTargets(Checks checks) {
        AspectWalk walk = new AspectWalk();
        walk.aspect(0, 0, 0, 0, 0);
        checks.due("stands(0)", walk.stands(0), -1);
        checks.due("alias(0)", walk.alias(0), -1);
        checks.due("add(1, 0, 0)", walk.add(1, 0, 0), false);
        checks.due("change(0, 0, 0)", walk.change(0, 0, 0), false);
        dueNothingToDo(checks, walk);
        checks.dueClash("new", walk, -1, -1, -1, -1, -1);
        checks.due("the first target", walk.target(0, 0), 0);
    }

    private static void dueNothingToDo(Checks checks, AspectWalk walk) {
        checks.due("apply(0, 0, 0)", walk.apply(0, 0, 0), -1);
        checks.due("state(0, 0, 0)", walk.state(0, 0, 0), -1);
        checks.due("result(0, 0, 0)", Checks.thrown(walk, 0, 0, 0), Checks.ILLEGAL_ARGUMENT);
        checks.due("worked(0, 0)", walk.worked(0, 0), 0);
        checks.due("maker(0, 0)", walk.maker(0, 0), -1);
        checks.due("done()", walk.done(), 0);
    }

    private static void newHasNoAspects(Checks checks) {
        AspectWalk other = Start.busy();
        AspectWalk walk = new AspectWalk();
        walk.target(0, 0);
        checks.due("need(0, 0)", walk.need(0, 0), -1);
        checks.due("need(0, 1)", walk.need(0, 1), -1);
        dueNothingToDo(checks, walk);
        checks.due("the other object's done()", other.done(), 3);
        checks.due("the first aspect", walk.aspect(0, 0, 0, 0, -1), 0);
    }

    private static void targetIsItsNumber(Checks checks) {
        AspectWalk walk = new AspectWalk();
        for (int number = 0; number < 20; number++) {
            checks.due("refused before", walk.alias(number), -1);
            checks.due("target " + number, walk.target(-number, ~number), number);
        }
    }

    private static void targetIsNoneAt20(Checks checks) {
        AspectWalk walk = Start.targets(19);
        checks.due("the 20th", walk.target(7, 0), 19);
        walk.aspect(0, 0, 0, 0, 0);
        walk.apply(19, 0, 0);
        checks.due("the 21st", walk.target(8, 255), -1);
        checks.due("the 21st again", walk.target(9, 255), -1);
        checks.due("stands(19)", walk.stands(19), 19);
        checks.due("stands(20)", walk.stands(20), -1);
        checks.due("state(19, 0, 0)", walk.state(19, 0, 0), 1);
        checks.due("change(19, 7, 0)", walk.change(19, 7, 0), true);
        checks.due("state(19, 0, 0)", walk.state(19, 0, 0), 1);
        checks.due("state(0, 0, 0)", walk.state(0, 0, 0), -1);
        AspectWalk full = Start.targets(1);
        for (int i = 1; i < 20; i++) {
            full.alias(0);
        }
        checks.due("a target behind 19 aliases", full.target(0, 0), -1);
    }

    private static void targetCountsEightBits(Checks checks) {
        AspectWalk walk = new AspectWalk();
        walk.target(0, 0x100);
        walk.target(0, ~0xff);
        walk.target(0, -1);
        walk.target(0, 0x180);
        walk.aspect(0, 0, 0x01, 0, -1);
        walk.aspect(0, 0, 0xff, 0, -1);
        walk.aspect(0, 0, 0x80, 0, -1);
        for (int aspect = 0; aspect < 3; aspect++) {
            checks.passed(walk, 0, aspect, 0);
            checks.passed(walk, 1, aspect, 0);
            checks.given(walk, 2, aspect, 0, 0);
        }
        checks.passed(walk, 3, 1, 0);
        checks.given(walk, 3, 2, 0, 0);
    }

    private static void aliasIsItsNumber(Checks checks) {
        AspectWalk walk = Start.targets(2);
        checks.due("alias(1)", walk.alias(1), 2);
        checks.due("alias(1) again", walk.alias(1), 3);
        checks.due("alias(3)", walk.alias(3), 4);
        checks.due("alias(0)", walk.alias(0), 5);
        checks.due("a target behind", walk.target(0, 0), 6);
    }

    private static void aliasIsNoneAt20(Checks checks) {
        AspectWalk walk = Start.targets(19);
        checks.due("the 20th", walk.alias(18), 19);
        for (int of = 19; of >= 0; of--) {
            checks.due("alias(" + of + ") as the 21st", walk.alias(of), -1);
        }
        checks.due("stands(19)", walk.stands(19), 18);
        checks.due("stands(20)", walk.stands(20), -1);
        checks.due("stands(0)", walk.stands(0), 0);
    }

    private static void aliasOfNoTarget(Checks checks) {
        AspectWalk walk = Start.busy();
        String before = Look.at(walk);
        for (int none : Start.outside(0, 3)) {
            checks.due("alias(" + none + ")", walk.alias(none), -1);
        }
        checks.unchanged("behind them", walk, before);
        checks.due("the next number", walk.alias(3), 4);
    }

    private static void standsForTheEnd(Checks checks) {
        AspectWalk walk = Start.targets(2);
        for (int number = 2; number < 20; number++) {
            walk.alias(number == 2 ? 1 : number - 1);
        }
        for (int number = 1; number < 20; number++) {
            checks.due("stands(" + number + ")", walk.stands(number), 1);
        }
        checks.due("stands(0)", walk.stands(0), 0);
    }

    private static void standsForItself(Checks checks) {
        AspectWalk walk = Start.chain(20);
        for (int number = 0; number < 20; number++) {
            checks.due("stands(" + number + ")", walk.stands(number), number);
        }
    }

    private static void standsOfNoTarget(Checks checks) {
        AspectWalk walk = Start.targets(19);
        walk.alias(0);
        for (int none : Start.outside(0, 19)) {
            checks.due("stands(" + none + ") of 20", walk.stands(none), -1);
        }
        AspectWalk few = Start.targets(3);
        for (int none : Start.outside(0, 2)) {
            checks.due("stands(" + none + ") of 3", few.stands(none), -1);
        }
    }

    private static void changeSetsBoth(Checks checks) {
        AspectWalk walk = Start.targets(2);
        walk.aspect(0, 0, 0x80, 0, -1);
        checks.passed(walk, 0, 0, 0);
        checks.due("change", walk.change(0, Long.MIN_VALUE, 0x80), true);
        checks.given(walk, 0, 0, 0, Long.MIN_VALUE);
        checks.due("change", walk.change(0, Long.MAX_VALUE, ~0x7f), true);
        checks.given(walk, 0, 0, 0, Long.MAX_VALUE);
        checks.due("change", walk.change(0, 0, 0x7f), true);
        checks.passed(walk, 0, 0, 0);
        checks.due("change", walk.change(0, 0, 0x100), true);
        checks.passed(walk, 0, 0, 0);
        checks.due("change", walk.change(0, -3, 0xff), true);
        checks.given(walk, 0, 0, 3, 0);
        checks.passed(walk, 1, 0, 0);
    }

    private static void changeOfOneOrNone(Checks checks) {
        AspectWalk walk = new AspectWalk();
        walk.target(5, 3);
        walk.aspect(0, 0, 0, 0, 0);
        walk.apply(0, 0, 0);
        checks.due("neither is another", walk.change(0, 5, 3), true);
        checks.due("state(0, 0, 0)", walk.state(0, 0, 0), 1);
        checks.due("bits that don't count", walk.change(0, 5, 0x7fffff03), true);
        checks.due("state(0, 0, 0)", walk.state(0, 0, 0), 1);
        checks.due("maker(0, 0)", walk.maker(0, 0), 0);
        long[] values = {6, 6, 6 + (1L << 32), 6 + (1L << 32)};
        int[] providers = {3, 2, 2, 0x82};
        for (int i = 0; i < values.length; i++) {
            checks.due("one is another", walk.change(0, values[i], providers[i]), true);
            checks.due("state(0, 0, 0)", walk.state(0, 0, 0), -1);
            checks.due("maker(0, 0)", walk.maker(0, 0), -1);
            checks.given(walk, 0, 0, 0, values[i]);
        }
        checks.due("worked(0, 0)", walk.worked(0, 0), 5);
    }

    private static void changeOfNoTarget(Checks checks) {
        AspectWalk walk = Start.busy();
        String before = Look.at(walk);
        for (int none : Start.outside(0, 3)) {
            checks.due("change(" + none + ", 9, 9)", walk.change(none, 9, 9), false);
        }
        checks.unchanged("behind them", walk, before);
        walk.target(0, 0);
        checks.passed(walk, 4, 1, 0);
    }

    private static void changeOfAnAlias(Checks checks) {
        AspectWalk walk = Start.busy();
        walk.alias(2);
        String before = Look.at(walk);
        checks.due("change(2, 1, 0)", walk.change(2, 1, 0), false);
        checks.due("change(2, 9, 9)", walk.change(2, 9, 9), false);
        checks.due("change(4, 9, 9)", walk.change(4, 9, 9), false);
        checks.unchanged("behind them", walk, before);
        int sum = walk.aspect(0, 0, 0, 0, -1);
        checks.given(walk, 2, sum, 0, 1);
        checks.given(walk, 4, sum, 1, 2);
        checks.passed(walk, 4, 1, 0);
    }
}
