/** The terms of changing: what is forgotten, and that nothing else is. */
final class ChangingSentences {
    private ChangingSentences() {
    }

    static void hold(Sentences sentences) {
        sentences.terms("CHANGING a TARGET (VALUE, PROVIDERS, a row): what is DONE (or was PASSED) "
                + "for it", ChangingSentences::whatIsKnownForIt);
        sentences.terms("and for all TARGETS that have it in a row",
                ChangingSentences::forThoseThatHaveIt);
        sentences.terms("or one that does so by way of others", ChangingSentences::byWayOfOthers);
        sentences.terms("(aliases lead on)", ChangingSentences::byWayOfAliases);
        sentences.terms("is forgotten; OUTPUTS that were MADE by it aren't MADE any more.",
                ChangingSentences::outputsAreNotMadeAnyMore);
        sentences.terms("(Of an ALIAS nothing can be changed.)", ChangingSentences::notOfAnAlias);
        sentences.terms("When an ASPECT gets a NEED, all of it", ChangingSentences::allOfTheAspect);
        sentences.terms("and of all ASPECTS that NEED it, by way of others too, is forgotten for "
                + "all TARGETS", ChangingSentences::allOfThoseThatNeedIt);
        sentences.terms("(OUTPUTS that were MADE by it aren't MADE any more, as behind CHANGING).",
                ChangingSentences::outputsOfTheAspect);
        sentences.terms("The constants: `NONE = -1`: None.", ChangingSentences::noneIsMinusOne);
    }

    /** Aspect 0 is done and aspect 1 was passed for both targets, with the settings 0 and 15. */
    private static AspectWalk twoApart() {
        AspectWalk walk = Start.targets(3);
        walk.aspect(0, 0, 0, 0, -1);
        walk.aspect(0, 0, 2, 0, -1);
        for (int setting = 0; setting < 16; setting += 15) {
            for (int target = 1; target < 3; target++) {
                walk.apply(target, 0, setting);
                walk.apply(target, 1, setting);
            }
        }
        return walk;
    }

    private static void dueForgotten(Checks checks, String when, AspectWalk walk) {
        for (int setting = 0; setting < 16; setting += 15) {
            checks.dueStates(when, walk, 0, setting, -1, 1, -1);
            checks.dueStates(when, walk, 1, setting, -1, 0, -1);
        }
        checks.due(when + " done()", walk.done(), 2);
    }

    private static void whatIsKnownForIt(Checks checks) {
        AspectWalk byValue = twoApart();
        checks.due("another value", byValue.change(2, 2, 0), true);
        dueForgotten(checks, "behind another value", byValue);
        AspectWalk byProviders = twoApart();
        checks.due("other providers", byProviders.change(2, 1, 1), true);
        dueForgotten(checks, "behind other providers", byProviders);
        AspectWalk byRow = twoApart();
        checks.due("another row", byRow.add(2, 2, 1), true);
        dueForgotten(checks, "behind another row", byRow);
        AspectWalk byNone = twoApart();
        checks.due("the same", byNone.change(2, 1, 0), true);
        checks.dueStates("behind the same", byNone, 0, 15, -1, 1, 1);
        checks.dueStates("behind the same", byNone, 1, 15, -1, 0, 0);
        allAspectsAndSettings(checks);
    }

    private static void allAspectsAndSettings(Checks checks) {
        AspectWalk walk = Start.targets(2);
        for (int aspect = 0; aspect < 8; aspect++) {
            walk.aspect(0, 0, 0, 0, -1);
            for (int setting = 0; setting < 16; setting++) {
                walk.apply(0, aspect, setting);
                walk.apply(1, aspect, setting);
            }
        }
        checks.due("done()", walk.done(), 256);
        walk.change(0, 2, 0);
        checks.due("done() behind", walk.done(), 128);
        checks.due("state(0, 0, 0)", walk.state(0, 0, 0), -1);
        checks.due("state(0, 7, 15)", walk.state(0, 7, 15), -1);
        checks.due("state(1, 7, 15)", walk.state(1, 7, 15), 1);
    }

    private static void forThoseThatHaveIt(Checks checks) {
        AspectWalk walk = Start.targets(6);
        walk.add(2, 0, 1);
        for (int i = 0; i < 4; i++) {
            walk.add(3, 1, i == 3 ? 1 : 0);
            walk.add(4, 2, i == 0 ? 1 : 0);
            walk.add(5, i % 3, 0);
        }
        // Aspect 0 goes along none of these rows: what it has done is forgotten all the same.
        walk.aspect(0, 0, 0, 0, -1);
        walk.aspect(0, 7, 4, 0, -1);
        for (int target = 0; target < 6; target++) {
            walk.apply(target, 0, 0);
            walk.apply(target, 1, 0);
        }
        walk.change(1, 2, 0);
        checks.dueStates("done before", walk, 0, 0, 1, -1, -1, -1, -1, 1);
        checks.dueStates("passed before", walk, 1, 0, 0, -1, -1, -1, -1, 0);
        for (int target = 0; target < 6; target++) {
            walk.apply(target, 0, 0);
        }
        for (int target = 0; target < 6; target++) {
            int want = target == 0 || target == 5 ? 1 : 2;
            checks.due("worked(" + target + ", 0)", walk.worked(target, 0), want);
        }
    }

    private static void byWayOfOthers(Checks checks) {
        AspectWalk walk = Start.targets(20);
        // The links in an order in which each joins chains that are there already.
        for (int target = 2; target < 20; target += 2) {
            walk.add(target, target % 3, target - 1);
        }
        for (int target = 19; target > 0; target -= 2) {
            walk.add(target, target % 3, target - 1);
        }
        walk.aspect(0, 7, 0, 0, -1);
        checks.given(walk, 19, 0, 0, 20);
        walk.change(10, 2, 0);
        for (int target = 0; target < 20; target++) {
            checks.due("state(" + target + ")", walk.state(target, 0, 0), target < 10 ? 1 : -1);
        }
        checks.given(walk, 19, 0, 0, 21);
        walk.add(5, 1, 0);
        checks.due("done() behind add(5)", walk.done(), 5);
        checks.given(walk, 19, 0, 0, 22);
        walk.change(0, 2, 0);
        checks.due("done() behind change(0)", walk.done(), 0);
        checks.given(walk, 19, 0, 0, 24);
        walk.change(19, 2, 0);
        checks.due("done() behind change(19)", walk.done(), 19);
    }

    private static void byWayOfAliases(Checks checks) {
        AspectWalk walk = new AspectWalk();
        walk.target(1, 0);
        walk.alias(0);
        walk.alias(1);
        walk.target(2, 0);
        walk.alias(3);
        walk.target(3, 0);
        walk.target(4, 0);
        walk.add(3, 0, 2);
        walk.add(5, 0, 4);
        walk.aspect(0, 1, 0, 0, 0);
        checks.given(walk, 5, 0, 0, 6);
        checks.given(walk, 6, 0, 0, 4);
        walk.change(0, 10, 0);
        checks.dueStates("behind it", walk, 0, 0, -1, -1, -1, -1, -1, -1, 1);
        checks.dueMakers("behind it", walk, 0, -1, -1, -1, -1, -1, -1, 0);
        checks.given(walk, 5, 0, 0, 15);
        walk.add(3, 1, 1);
        checks.dueStates("behind add", walk, 0, 0, 1, 1, 1, -1, -1, -1, 1);
    }

    private static void outputsAreNotMadeAnyMore(Checks checks) {
        AspectWalk walk = Start.chain(2);
        walk.aspect(0, 0, 0, 0, 4);
        walk.aspect(0, 0, 0, 0, 4);
        walk.aspect(0, 0, 0, 0, 9);
        walk.target(1, 0);
        for (int target = 0; target < 3; target++) {
            walk.apply(target, 0, 0);
            walk.apply(target, 2, 5);
        }
        walk.change(0, 5, 0);
        checks.dueMakers("behind it", walk, 4, -1, -1, 0);
        checks.dueMakers("behind it", walk, 9, -1, -1, 2);
        checks.given(walk, 1, 1, 3, 4);
        checks.given(walk, 0, 0, 15, 20);
        checks.given(walk, 0, 2, 6, 11);
        checks.dueMakers("anew", walk, 4, 0, 1, 0);
        checks.clashed(walk, 1, 0, 0, 1, 0, 0, 1, 3);
        checks.clashed(walk, 2, 0, 3, 2, 0, 3, 0, 0);
        walk.add(1, 2, 0);
        checks.dueMakers("behind add", walk, 4, 0, -1, 0);
        checks.given(walk, 1, 0, 0, 1);
    }

    private static void notOfAnAlias(Checks checks) {
        AspectWalk walk = Start.busy();
        walk.alias(3);
        String before = Look.at(walk);
        for (int alias = 2; alias < 5; alias += 2) {
            checks.due("another value", walk.change(alias, 77, 0), false);
            checks.due("other providers", walk.change(alias, 1, 255), false);
            checks.due("another row", walk.add(alias, 0, 1), false);
        }
        checks.unchanged("behind them", walk, before);
        int sum = walk.aspect(0, 7, 0, 0, -1);
        checks.given(walk, 2, sum, 0, 1);
        checks.given(walk, 4, sum, 0, 111);
        checks.passed(walk, 2, 1, 0);
        checks.passed(walk, 4, 1, 0);
    }

    private static void allOfTheAspect(Checks checks) {
        AspectWalk walk = Start.targets(3);
        walk.aspect(0, 0, 1, 0, -1);
        walk.aspect(0, 0, 0, 1, -1);
        walk.change(0, 1, 1);
        for (int setting = 0; setting < 16; setting++) {
            walk.apply(0, 0, setting);
            walk.apply(1, 0, setting);
            walk.apply(1, 1, setting);
        }
        checks.due("done()", walk.done(), 32);
        checks.due("need(0, 1)", walk.need(0, 1), 1);
        for (int setting = 0; setting < 16; setting++) {
            checks.dueStates("what got a need", walk, 0, setting, -1, -1);
            checks.dueStates("what it needs", walk, 1, setting, -1, 1);
        }
        checks.due("done()", walk.done(), 16);
        checks.given(walk, 1, 0, 15, 32);
        checks.due("a need that is", walk.need(0, 1), -1);
        checks.due("a ring", walk.need(1, 0), -2);
        checks.due("state(1, 0, 15)", walk.state(1, 0, 15), 1);
        checks.due("state(1, 1, 15)", walk.state(1, 1, 15), 1);
    }

    /** Aspect 2 needs 1, which needs 0; 3 needs 0; 4 and 5 are apart; all make outputs. */
    private static AspectWalk needing() {
        AspectWalk walk = new AspectWalk();
        walk.target(1, 0);
        walk.target(10, 0);
        for (int aspect = 0; aspect < 6; aspect++) {
            walk.aspect(0, 0, 0, 0, aspect);
        }
        walk.need(1, 0);
        walk.need(2, 1);
        walk.need(3, 0);
        for (int aspect = 0; aspect < 6; aspect++) {
            walk.apply(0, aspect, 1);
            walk.apply(1, aspect, 2);
        }
        return walk;
    }

    private static void dueAspects(Checks checks, String when, AspectWalk walk, int... want) {
        for (int aspect = 0; aspect < want.length; aspect++) {
            checks.due(when + " state(0, " + aspect + ")", walk.state(0, aspect, 1), want[aspect]);
            checks.due(when + " state(1, " + aspect + ")", walk.state(1, aspect, 2), want[aspect]);
        }
    }

    private static void allOfThoseThatNeedIt(Checks checks) {
        AspectWalk walk = needing();
        checks.due("need(1, 4)", walk.need(1, 4), 1);
        dueAspects(checks, "behind need(1, 4)", walk, 1, -1, -1, 1, 1, 1);
        checks.due("done()", walk.done(), 8);
        checks.given(walk, 0, 2, 1, 2 + 2 + 2 + 2);
        checks.due("need(4, 5)", walk.need(4, 5), 1);
        dueAspects(checks, "behind need(4, 5)", walk, 1, -1, -1, 1, -1, 1);
        checks.due("need(0, 5)", walk.need(0, 5), 1);
        dueAspects(checks, "behind need(0, 5)", walk, -1, -1, -1, -1, -1, 1);
        checks.due("done()", walk.done(), 2);
        checks.given(walk, 0, 2, 1, 2 + (2 + (2 + 2) + (2 + 2)));
        passedOfThoseThatNeedIt(checks);
    }

    private static void passedOfThoseThatNeedIt(Checks checks) {
        AspectWalk walk = Start.targets(20);
        walk.aspect(0, 0, 1, 0, -1);
        walk.aspect(0, 0, 0, 1, -1);
        walk.aspect(0, 0, 1, 0, -1);
        walk.need(2, 0);
        walk.apply(0, 2, 0);
        walk.apply(19, 2, 15);
        walk.need(0, 1);
        checks.due("state(0, 0, 0)", walk.state(0, 0, 0), -1);
        checks.due("state(0, 2, 0)", walk.state(0, 2, 0), -1);
        checks.due("state(19, 0, 15)", walk.state(19, 0, 15), -1);
        checks.due("state(19, 2, 15)", walk.state(19, 2, 15), -1);
        checks.passed(walk, 0, 2, 0);
        checks.due("result(0, 0, 0)", walk.result(0, 0, 0), 2);
    }

    private static void outputsOfTheAspect(Checks checks) {
        AspectWalk walk = needing();
        walk.need(1, 4);
        int[] makers = {0, -1, -1, 3, 4, 5};
        for (int name = 0; name < 6; name++) {
            checks.dueMakers("behind need(1, 4)", walk, name, makers[name], makers[name]);
        }
        checks.clashed(walk, 0, 1, 7, 0, 0, 7, 0, 1);
        // Two aspects of one name: the one that did not make the output does not free it.
        AspectWalk two = Start.targets(1);
        for (int aspect = 0; aspect < 3; aspect++) {
            two.aspect(0, 0, 0, 0, aspect == 2 ? -1 : 4);
        }
        two.apply(0, 1, 3);
        checks.due("need(0, 2)", two.need(0, 2), 1);
        checks.due("maker(0, 4)", two.maker(0, 4), 1);
        checks.due("need(1, 2)", two.need(1, 2), 1);
        checks.due("maker(0, 4)", two.maker(0, 4), -1);
        checks.given(two, 0, 0, 8, 18);
        checks.due("maker(0, 4)", two.maker(0, 4), 0);
    }

    private static void noneIsMinusOne(Checks checks) {
        AspectWalk walk = new AspectWalk();
        checks.due("NONE", AspectWalk.NONE, -1);
        checks.due("a number that there is not", walk.stands(0), AspectWalk.NONE);
        checks.due("a name that is none", walk.aspect(0, 0, 0, 0, AspectWalk.NONE), 0);
    }
}
