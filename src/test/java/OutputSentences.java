/** Promises 10 and 15, with the terms of outputs and clashes. */
final class OutputSentences {
    private OutputSentences() {
    }

    static void hold(Sentences sentences) {
        sentences.terms("(4) If its OUTPUT is MADE by another doing (another SETTING,",
                OutputSentences::anotherSettingClashes);
        sentences.terms("or another ASPECT with that NAME, for this TARGET), it CLASHES.",
                OutputSentences::anotherAspectClashes);
        sentences.terms("Else the OUTPUT is MADE by it.", OutputSentences::elseItIsMade);
        sentences.terms("If something CLASHES on the way, what was to be DONE by it isn't",
                OutputSentences::whatClashesIsNotDone);
        sentences.terms("it ends at once for all that wait for it",
                OutputSentences::aClashEndsAllThatWait);
        sentences.terms("what was DONE before stays.", OutputSentences::whatWasDoneBeforeStays);
        sentences.promise(10, "Of the latest apply that was - 2",
                OutputSentences::clashIsTheLatest);
        sentences.promise(10, "0 the TARGET, 1 the ASPECT that CLASHES, 2 its SETTING, 3 the "
                + "ASPECT that MADE the OUTPUT, 4 its SETTING", OutputSentences::clashTellsFive);
        sentences.promise(10, "NONE for another what", OutputSentences::clashOfAnotherWhat);
        sentences.promise(10, "or if there was none.", OutputSentences::clashIfThereWasNone);
        sentences.promise(15, "Which ASPECT MADE an OUTPUT of a NAME for a TARGET",
                OutputSentences::makerOfAnOutput);
        sentences.promise(15, "NONE if none did", OutputSentences::makerIfNoneDid);
        sentences.promise(15, "or there are none such.", OutputSentences::makerOfNoneSuch);
    }

    private static void anotherSettingClashes(Checks checks) {
        AspectWalk walk = Start.targets(2);
        walk.aspect(0, 0, 0, 0, 5);
        checks.given(walk, 0, 0, 7, 8);
        for (int setting = 0; setting < 16; setting++) {
            if (setting != 7) {
                checks.clashed(walk, 0, 0, setting, 0, 0, setting, 0, 7);
            }
        }
        checks.due("the same doing", walk.apply(0, 0, 7), 1);
        checks.given(walk, 1, 0, 8, 9);
        checks.due("maker(0, 5)", walk.maker(0, 5), 0);
    }

    private static void anotherAspectClashes(Checks checks) {
        AspectWalk walk = new AspectWalk();
        walk.target(1, 0);
        walk.target(2, 0);
        walk.aspect(0, 0, 0, 0, 9);
        walk.aspect(1, 0, 0, 0, 9);
        walk.aspect(1, 0, 0, 0, 8);
        walk.aspect(1, 0, 0, 0, -1);
        walk.aspect(1, 0, 0, 0, -1);
        checks.given(walk, 1, 1, 2, 4);
        checks.clashed(walk, 1, 0, 2, 1, 0, 2, 1, 2);
        checks.given(walk, 1, 2, 2, 4);
        checks.given(walk, 0, 0, 2, 3);
        checks.dueMakers("behind them", walk, 9, 0, 1);
        checks.given(walk, 1, 3, 2, 4);
        checks.given(walk, 1, 4, 2, 4);
        AspectWalk needing = Start.targets(1);
        needing.aspect(0, 0, 0, 0, 0);
        needing.aspect(0, 0, 0, 0, 0);
        needing.need(1, 0);
        checks.clashed(needing, 0, 1, 4, 0, 1, 4, 0, 4);
        checks.due("the need is done", needing.state(0, 0, 4), 1);
    }

    private static void elseItIsMade(Checks checks) {
        AspectWalk walk = Start.chain(3);
        walk.aspect(0, 1, 0, 0, 0);
        walk.aspect(0, 0, 1, 0, 0);
        walk.aspect(0, 0, 0, 0, 0);
        checks.passed(walk, 2, 1, 3);
        checks.dueMakers("what is passed", walk, 0, -1, -1, -1);
        checks.given(walk, 1, 0, 3, 8);
        checks.dueMakers("what is done", walk, 0, 0, 0, -1);
        checks.given(walk, 2, 2, 4, 5);
        checks.dueMakers("what is done", walk, 0, 0, 0, 2);
        checks.passed(walk, 1, 1, 3);
        checks.clashed(walk, 2, 0, 3, 2, 0, 3, 2, 4);
        checks.dueMakers("what clashes", walk, 0, 0, 0, 2);
    }

    /** Row 0 of 3 is 0, 1, 2, and 4 has 3; 1 has an output of setting 9. */
    private static AspectWalk clashInTheMiddle() {
        AspectWalk walk = Start.targets(5);
        walk.add(3, 0, 0);
        walk.add(3, 0, 1);
        walk.add(3, 0, 2);
        walk.add(4, 1, 3);
        walk.aspect(0, 3, 0, 0, 1);
        walk.apply(1, 0, 9);
        return walk;
    }

    private static void whatClashesIsNotDone(Checks checks) {
        AspectWalk walk = clashInTheMiddle();
        checks.clashed(walk, 1, 0, 8, 1, 0, 8, 0, 9);
        checks.due("state(1, 0, 8)", walk.state(1, 0, 8), -1);
        checks.due("result(1, 0, 8)", Checks.thrown(walk, 1, 0, 8), Checks.ILLEGAL_STATE);
        checks.due("worked(1, 0)", walk.worked(1, 0), 1);
        checks.due("done()", walk.done(), 1);
        checks.due("result(1, 0, 9)", walk.result(1, 0, 9), 10);
        checks.clashed(walk, 3, 0, 8, 1, 0, 8, 0, 9);
        walk.change(1, 100, 0);
        checks.given(walk, 1, 0, 8, 108);
        checks.given(walk, 4, 0, 8, 9 + 9 + 9 + 108 + 9);
        checks.clashed(walk, 1, 0, 9, 1, 0, 9, 0, 8);
    }

    private static void aClashEndsAllThatWait(Checks checks) {
        AspectWalk walk = clashInTheMiddle();
        checks.clashed(walk, 4, 0, 8, 1, 0, 8, 0, 9);
        checks.dueStates("behind it", walk, 0, 8, 1, -1, -1, -1, -1);
        checks.dueMakers("behind it", walk, 1, 0, 0, -1, -1, -1);
        for (int target = 0; target < 5; target++) {
            checks.due("worked(" + target + ", 0)", walk.worked(target, 0), target < 2 ? 1 : 0);
        }
        AspectWalk needing = Start.chain(2);
        needing.aspect(0, 0, 0, 0, 3);
        needing.aspect(0, 0, 0, 0, -1);
        needing.aspect(0, 0, 16, 0, -1);
        needing.aspect(0, 1, 0, 0, -1);
        needing.need(3, 2);
        needing.need(3, 0);
        needing.need(3, 1);
        needing.apply(1, 0, 0);
        checks.clashed(needing, 1, 3, 1, 1, 0, 1, 0, 0);
        checks.dueStates("the need that clashes", needing, 0, 1, -1, -1);
        checks.dueStates("the need behind it", needing, 1, 1, -1, -1);
        checks.dueStates("what waits", needing, 3, 1, -1, -1);
        theDeepestEndsAll(checks);
    }

    /** The clash is at the far end of all targets and needs. */
    private static void theDeepestEndsAll(Checks checks) {
        AspectWalk walk = Start.chain(20);
        for (int aspect = 0; aspect < 8; aspect++) {
            walk.aspect(0, 1, 0, 0, aspect);
            walk.need(aspect, aspect - 1);
        }
        walk.apply(0, 0, 15);
        checks.clashed(walk, 19, 7, 14, 0, 0, 14, 0, 15);
        checks.due("done()", walk.done(), 1);
        checks.due("state(19, 7, 14)", walk.state(19, 7, 14), -1);
        walk.change(0, 5, 0);
        checks.due("apply(19, 7, 14)", walk.apply(19, 7, 14), 1);
        checks.due("done()", walk.done(), 160);
    }

    private static void whatWasDoneBeforeStays(Checks checks) {
        AspectWalk walk = clashInTheMiddle();
        walk.apply(4, 0, 8);
        checks.due("result(0, 0, 8)", walk.result(0, 0, 8), 9);
        checks.due("result(1, 0, 9)", walk.result(1, 0, 9), 10);
        checks.clashed(walk, 0, 0, 7, 0, 0, 7, 0, 8);
        // What it needs and all below it is done before its own output clashes.
        AspectWalk late = Start.chain(2);
        late.aspect(0, 1, 0, 0, 0);
        late.aspect(0, 0, 0, 0, 7);
        late.aspect(0, 0, 0, 0, 0);
        late.aspect(0, 0, 1, 0, -1);
        late.need(0, 3);
        late.need(0, 1);
        late.apply(1, 2, 5);
        checks.clashed(late, 1, 0, 5, 1, 0, 5, 2, 5);
        checks.dueStates("itself", late, 0, 5, 1, -1);
        checks.dueStates("what it needs", late, 1, 5, 1, 1);
        checks.dueStates("what it needs and was passed", late, 3, 5, 0, 0);
        checks.dueMakers("what it needs", late, 7, 1, 1);
        checks.due("done()", late.done(), 4);
        checks.due("worked(1, 0)", late.worked(1, 0), 0);
    }

    private static void clashIsTheLatest(Checks checks) {
        AspectWalk walk = Start.targets(2);
        walk.aspect(0, 0, 0, 0, 2);
        walk.aspect(0, 0, 0, 0, -1);
        walk.aspect(0, 0, 1, 0, -1);
        walk.apply(0, 0, 1);
        checks.clashed(walk, 0, 0, 2, 0, 0, 2, 0, 1);
        checks.due("an apply that is 1", walk.apply(1, 0, 3), 1);
        checks.due("an apply that is 0", walk.apply(1, 2, 4), 0);
        checks.due("an apply that is -1", walk.apply(2, 0, 4), -1);
        checks.due("an apply that is -1", walk.apply(1, 0, 16), -1);
        walk.change(0, 5, 0);
        walk.need(0, 1);
        checks.dueClash("later", walk, 0, 0, 2, 0, 1);
        walk.apply(1, 0, 15);
        checks.clashed(walk, 1, 0, 14, 1, 0, 14, 0, 15);
        walk.apply(0, 0, 13);
        checks.clashed(walk, 0, 0, 0, 0, 0, 0, 0, 13);
    }

    private static void clashTellsFive(Checks checks) {
        AspectWalk walk = Start.aspects(6);
        for (int target = 0; target < 20; target++) {
            walk.target(1, 0);
        }
        checks.due("aspect 6", walk.aspect(0, 0, 0, 0, 9), 6);
        checks.due("aspect 7", walk.aspect(0, 0, 0, 0, 9), 7);
        walk.apply(19, 6, 15);
        checks.clashed(walk, 19, 7, 14, 19, 7, 14, 6, 15);
        walk.apply(0, 7, 0);
        checks.clashed(walk, 0, 6, 3, 0, 6, 3, 7, 0);
        AspectWalk small = Start.targets(2);
        small.alias(1);
        small.target(5, 0);
        small.add(3, 0, 2);
        small.aspect(0, 1, 0, 0, 2);
        checks.due("apply(2, 0, 1)", small.apply(2, 0, 1), 1);
        checks.clashed(small, 2, 0, 3, 1, 0, 3, 0, 1);
        checks.clashed(small, 3, 0, 4, 1, 0, 4, 0, 1);
        checks.given(small, 3, 0, 1, 8);
    }

    private static void clashOfAnotherWhat(Checks checks) {
        AspectWalk walk = Start.busy();
        checks.dueClash("told", walk, 0, 0, 1, 0, 0);
        for (int another : Start.outside(0, 4)) {
            checks.due("clash(" + another + ")", walk.clash(another), -1);
        }
        checks.due("clash(3)", walk.clash(3), 0);
        AspectWalk far = Start.targets(8);
        far.aspect(0, 0, 0, 0, 2);
        far.apply(7, 0, 9);
        checks.clashed(far, 7, 0, 8, 7, 0, 8, 0, 9);
        checks.due("clash(-1)", far.clash(-1), -1);
        checks.due("clash(5)", far.clash(5), -1);
    }

    private static void clashIfThereWasNone(Checks checks) {
        AspectWalk walk = new AspectWalk();
        checks.dueClash("new", walk, -1, -1, -1, -1, -1, -1);
        walk.target(1, 0);
        walk.aspect(0, 0, 0, 0, 2);
        walk.aspect(0, 0, 1, 0, 2);
        checks.due("an apply that is 1", walk.apply(0, 0, 1), 1);
        checks.due("an apply that is 0", walk.apply(0, 1, 1), 0);
        checks.due("an apply that is -1", walk.apply(0, 0, 16), -1);
        checks.due("a need that is -2", walk.need(0, 0), -2);
        checks.dueClash("without a clash", walk, -1, -1, -1, -1, -1, -1);
        checks.clashed(walk, 0, 0, 2, 0, 0, 2, 0, 1);
    }

    private static void makerOfAnOutput(Checks checks) {
        AspectWalk walk = Start.chain(20);
        for (int name = 9; name > 1; name--) {
            walk.aspect(0, name == 2 ? 1 : 0, 0, 0, name);
            walk.apply(19, 9 - name, name);
        }
        for (int name = 2; name <= 9; name++) {
            checks.due("maker(19, " + name + ")", walk.maker(19, name), 9 - name);
        }
        checks.due("along its row", walk.maker(0, 2), 7);
        checks.due("not along its row", walk.maker(18, 9), -1);
        AspectWalk least = Start.targets(1);
        least.alias(0);
        least.aspect(0, 0, 0, 0, 0);
        least.apply(1, 0, 0);
        checks.due("maker(0, 0)", least.maker(0, 0), 0);
        checks.due("maker(1, 0)", least.maker(1, 0), 0);
    }

    private static void makerIfNoneDid(Checks checks) {
        AspectWalk walk = Start.busy();
        walk.aspect(0, 0, 1, 0, 1);
        walk.aspect(0, 0, 0, 0, -1);
        walk.apply(3, 2, 0);
        walk.apply(3, 3, 0);
        for (int name = 1; name < 10; name++) {
            checks.due("maker(3, " + name + ")", walk.maker(3, name), -1);
        }
        walk.target(1, 0);
        checks.due("maker(4, 0)", walk.maker(4, 0), -1);
        checks.due("maker(3, 0)", walk.maker(3, 0), 0);
        walk.change(3, 0, 0);
        checks.due("maker(3, 0) behind a change", walk.maker(3, 0), -1);
        checks.due("maker(0, 0) behind it", walk.maker(0, 0), 0);
    }

    private static void makerOfNoneSuch(Checks checks) {
        AspectWalk walk = Start.targets(20);
        walk.aspect(0, 0, 0, 0, 0);
        walk.aspect(0, 0, 0, 0, 9);
        for (int target = 0; target < 20; target++) {
            walk.apply(target, 0, 0);
            walk.apply(target, 1, 0);
        }
        for (int none : Start.outside(0, 19)) {
            checks.due("maker(" + none + ", 0)", walk.maker(none, 0), -1);
            checks.due("maker(" + none + ", 9)", walk.maker(none, 9), -1);
        }
        for (int none : Start.outside(0, 9)) {
            checks.due("maker(0, " + none + ")", walk.maker(0, none), -1);
            checks.due("maker(10, " + none + ")", walk.maker(10, none), -1);
            checks.due("maker(19, " + none + ")", walk.maker(19, none), -1);
        }
        checks.due("maker(19, 9)", walk.maker(19, 9), 1);
    }
}
