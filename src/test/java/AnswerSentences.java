/** Promises 9 and 11 to 14: apply, state, result, worked and done. */
final class AnswerSentences {
    private AnswerSentences() {
    }

    static void hold(Sentences sentences) {
        sentences.promise(9, "DOING: 1 it is DONE (also if it was)", AnswerSentences::applyIsDone);
        sentences.promise(9, "0 it is PASSED", AnswerSentences::applyIsPassed);
        sentences.promise(9, "- 1 if there are none such", AnswerSentences::applyOfNoneSuch);
        sentences.promise(9, "or SETTING isn't 0 .. 15", AnswerSentences::applyOfNoSetting);
        sentences.promise(9, "- 2 if something CLASHES: it is told by clash.",
                AnswerSentences::applyClashes);
        sentences.promise(11, "Whether it is DONE (1)", AnswerSentences::stateOfWhatIsDone);
        sentences.promise(11, "was PASSED (0)", AnswerSentences::stateOfWhatWasPassed);
        sentences.promise(11, "or neither is known (NONE", AnswerSentences::stateThatIsNotKnown);
        sentences.promise(11, "also if there are none such).", AnswerSentences::stateOfNoneSuch);
        sentences.promise(12, "The RESULT of what is DONE.", AnswerSentences::resultOfWhatIsDone);
        sentences.promise(12, "IllegalArgumentException: there are none such",
                AnswerSentences::resultOfNoneSuch);
        sentences.promise(12, "or SETTING isn't 0 .. 15.", AnswerSentences::resultOfNoSetting);
        sentences.promise(12, "IllegalStateException: it isn't DONE.",
                AnswerSentences::resultOfWhatIsNotDone);
        sentences.promise(13, "How often an ASPECT was DONE anew for a TARGET",
                AnswerSentences::workedCountsDoneAnew);
        sentences.promise(13, "(with any SETTING, in all", AnswerSentences::workedInAll);
        sentences.promise(13, "by what it STANDS FOR)", AnswerSentences::workedByAliases);
        sentences.promise(13, "0 if there are none such.", AnswerSentences::workedOfNoneSuch);
        sentences.promise(14, "What is DONE (with any SETTING): how many",
                AnswerSentences::doneFromNoneToAll);
        sentences.promise(14, "those that were PASSED don't count.",
                AnswerSentences::passedDoNotCount);
    }

    private static void applyIsDone(Checks checks) {
        AspectWalk walk = Start.chain(2);
        walk.aspect(0, 1, 0, 0, 0);
        checks.due("the first time", walk.apply(1, 0, 15), 1);
        checks.due("the second time", walk.apply(1, 0, 15), 1);
        checks.due("below, on the way", walk.apply(0, 0, 15), 1);
        checks.due("worked(0, 0)", walk.worked(0, 0), 1);
        checks.due("worked(1, 0)", walk.worked(1, 0), 1);
        walk.change(1, 7, 0);
        checks.due("anew", walk.apply(1, 0, 15), 1);
        checks.due("worked(1, 0)", walk.worked(1, 0), 2);
    }

    private static void applyIsPassed(Checks checks) {
        AspectWalk walk = Start.targets(2);
        walk.change(1, 1, 2);
        walk.aspect(0, 0, 2, 0, 0);
        checks.due("the first time", walk.apply(0, 0, 0), 0);
        checks.due("the second time", walk.apply(0, 0, 0), 0);
        checks.due("another setting", walk.apply(0, 0, 15), 0);
        checks.due("one that has it", walk.apply(1, 0, 0), 1);
        checks.dueStates("behind them", walk, 0, 0, 0, 1);
        checks.dueStates("behind them", walk, 0, 15, 0, -1);
        walk.change(0, 1, 2);
        checks.due("as it has it too", walk.apply(0, 0, 0), 1);
        walk.change(0, 1, 1);
        checks.due("as it hasn't any more", walk.apply(0, 0, 0), 0);
    }

    private static void applyOfNoneSuch(Checks checks) {
        AspectWalk walk = Start.busy();
        String before = Look.at(walk);
        for (int none : Start.outside(0, 3)) {
            checks.due("target " + none, walk.apply(none, 0, 0), -1);
        }
        for (int none : Start.outside(0, 1)) {
            checks.due("aspect " + none, walk.apply(0, none, 0), -1);
        }
        checks.due("neither", walk.apply(4, 2, 0), -1);
        checks.unchanged("behind them", walk, before);
        AspectWalk full = Start.full();
        for (int none : Start.outside(0, 19)) {
            checks.due("target " + none + " of 20", full.apply(none, 7, 0), -1);
        }
        for (int none : Start.outside(0, 7)) {
            checks.due("aspect " + none + " of 8", full.apply(19, none, 0), -1);
        }
        checks.due("the last ones", full.apply(19, 7, 0), 1);
        checks.due("done()", full.done(), 1);
    }

    private static void applyOfNoSetting(Checks checks) {
        AspectWalk walk = Start.busy();
        String before = Look.at(walk);
        for (int none : Start.outside(0, 15)) {
            checks.due("setting " + none, walk.apply(3, 0, none), -1);
            checks.due("setting " + none + " of what is passed", walk.apply(3, 1, none), -1);
        }
        checks.unchanged("behind them", walk, before);
        walk.aspect(0, 0, 0, 0, -1);
        checks.due("setting 0", walk.apply(3, 2, 0), 1);
        checks.due("setting 15", walk.apply(3, 2, 15), 1);
    }

    private static void applyClashes(Checks checks) {
        AspectWalk walk = Start.busy();
        checks.clashed(walk, 1, 0, 15, 1, 0, 15, 0, 0);
        checks.clashed(walk, 2, 0, 14, 0, 0, 14, 0, 0);
        checks.clashed(walk, 3, 0, 13, 0, 0, 13, 0, 0);
        checks.clashed(walk, 1, 1, 12, 1, 0, 12, 0, 0);
        String before = Look.at(walk);
        for (int i = 0; i < 3; i++) {
            checks.clashed(walk, 1, 1, 12, 1, 0, 12, 0, 0);
        }
        checks.unchanged("a clash again", walk, before);
        checks.due("done()", walk.done(), 3);
    }

    private static void stateOfWhatIsDone(Checks checks) {
        AspectWalk walk = Start.full();
        int[] targets = {0, 19};
        int[] aspects = {0, 7};
        int[] settings = {0, 15};
        for (int target : targets) {
            for (int aspect : aspects) {
                for (int setting : settings) {
                    checks.due("state before", walk.state(target, aspect, setting), -1);
                    walk.apply(target, aspect, setting);
                    checks.due("state behind", walk.state(target, aspect, setting), 1);
                }
            }
        }
        checks.due("state(0, 0, 1)", walk.state(0, 0, 1), -1);
        checks.due("state(18, 7, 15)", walk.state(18, 7, 15), -1);
    }

    private static void stateOfWhatWasPassed(Checks checks) {
        AspectWalk walk = Start.chain(2);
        walk.aspect(0, 1, 0, 0, -1);
        walk.aspect(0, 1, 4, 0, -1);
        walk.need(0, 1);
        for (int setting = 0; setting < 16; setting += 15) {
            checks.dueStates("before", walk, 1, setting, -1, -1);
            checks.due("apply(1, 0, " + setting + ")", walk.apply(1, 0, setting), 1);
            checks.dueStates("what was passed on the way", walk, 1, setting, 0, 0);
        }
        checks.dueStates("another setting", walk, 1, 7, -1, -1);
    }

    private static void stateThatIsNotKnown(Checks checks) {
        AspectWalk walk = Start.busy();
        checks.due("never done", walk.state(1, 1, 0), -1);
        checks.due("a setting that clashed", walk.state(0, 0, 1), -1);
        checks.due("what waited for it", walk.state(3, 0, 1), -1);
        checks.dueStates("what is known", walk, 0, 0, 1, 1, 1, 1);
        checks.due("what was passed", walk.state(3, 1, 0), 0);
        walk.change(0, 5, 5);
        checks.dueStates("forgotten", walk, 0, 0, -1, 1, -1, -1);
        checks.due("forgotten, that was passed", walk.state(3, 1, 0), -1);
        checks.due("asking does nothing", walk.done(), 1);
    }

    private static void stateOfNoneSuch(Checks checks) {
        AspectWalk walk = Start.busy();
        for (int none : Start.outside(0, 3)) {
            checks.due("target " + none, walk.state(none, 0, 0), -1);
        }
        for (int none : Start.outside(0, 1)) {
            checks.due("aspect " + none, walk.state(3, none, 0), -1);
        }
        for (int none : Start.outside(0, 15)) {
            checks.due("setting " + none, walk.state(3, 0, none), -1);
            checks.due("setting " + none + " of what was passed", walk.state(3, 1, none), -1);
        }
        AspectWalk full = Start.full();
        for (int i = 0; i < 20; i++) {
            full.apply(i, 7, 15);
        }
        checks.due("state(20, 7, 15)", full.state(20, 7, 15), -1);
        checks.due("state(19, 8, 15)", full.state(19, 8, 15), -1);
        checks.due("state(19, 7, 16)", full.state(19, 7, 16), -1);
    }

    private static void resultOfWhatIsDone(Checks checks) {
        AspectWalk walk = Start.full();
        walk.change(19, Long.MAX_VALUE - 15, 0);
        walk.change(0, -1, 0);
        walk.apply(19, 7, 15);
        walk.apply(0, 0, 0);
        walk.apply(0, 0, 15);
        checks.due("result(19, 7, 15)", walk.result(19, 7, 15), Long.MAX_VALUE);
        checks.due("a result that is -1", walk.result(0, 0, 0), -1);
        checks.due("result(0, 0, 15)", walk.result(0, 0, 15), 14);
        walk.change(0, 0, 0);
        walk.apply(0, 0, 0);
        checks.due("a result that is 0", walk.result(0, 0, 0), 0);
        checks.due("done()", walk.done(), 2);
    }

    private static void dueThrown(Checks checks, AspectWalk walk, int target, int aspect,
            int setting, long want) {
        checks.due("exception of result(" + target + ", " + aspect + ", " + setting + ")",
                Checks.thrown(walk, target, aspect, setting), want);
    }

    private static void resultOfNoneSuch(Checks checks) {
        AspectWalk walk = Start.busy();
        for (int none : Start.outside(0, 3)) {
            dueThrown(checks, walk, none, 0, 0, Checks.ILLEGAL_ARGUMENT);
        }
        for (int none : Start.outside(0, 1)) {
            dueThrown(checks, walk, 3, none, 0, Checks.ILLEGAL_ARGUMENT);
        }
        dueThrown(checks, walk, 4, 2, 0, Checks.ILLEGAL_ARGUMENT);
        dueThrown(checks, walk, 3, 0, 0, 0);
        AspectWalk full = Start.full();
        dueThrown(checks, full, 20, 7, 0, Checks.ILLEGAL_ARGUMENT);
        dueThrown(checks, full, 19, 8, 0, Checks.ILLEGAL_ARGUMENT);
        dueThrown(checks, full, 19, 7, 0, Checks.ILLEGAL_STATE);
    }

    private static void resultOfNoSetting(Checks checks) {
        AspectWalk walk = Start.busy();
        for (int none : Start.outside(0, 15)) {
            dueThrown(checks, walk, 3, 0, none, Checks.ILLEGAL_ARGUMENT);
            dueThrown(checks, walk, 3, 1, none, Checks.ILLEGAL_ARGUMENT);
        }
        dueThrown(checks, walk, 3, 0, 0, 0);
        dueThrown(checks, walk, 3, 0, 15, Checks.ILLEGAL_STATE);
    }

    private static void resultOfWhatIsNotDone(Checks checks) {
        AspectWalk walk = Start.busy();
        String before = Look.at(walk);
        for (int setting = 1; setting < 16; setting++) {
            dueThrown(checks, walk, 3, 0, setting, Checks.ILLEGAL_STATE);
        }
        dueThrown(checks, walk, 3, 1, 0, Checks.ILLEGAL_STATE);
        dueThrown(checks, walk, 0, 1, 0, Checks.ILLEGAL_STATE);
        checks.unchanged("behind them", walk, before);
        walk.change(2, 9, 9);
        dueThrown(checks, walk, 2, 0, 0, 0);
        walk.change(0, 9, 9);
        dueThrown(checks, walk, 2, 0, 0, Checks.ILLEGAL_STATE);
        dueThrown(checks, walk, 3, 0, 0, Checks.ILLEGAL_STATE);
        dueThrown(checks, walk, 1, 0, 0, 0);
        walk.need(0, walk.aspect(0, 0, 0, 0, -1));
        dueThrown(checks, walk, 1, 0, 0, Checks.ILLEGAL_STATE);
    }

    private static void workedCountsDoneAnew(Checks checks) {
        AspectWalk walk = Start.chain(2);
        walk.aspect(0, 1, 2, 0, 3);
        checks.due("none yet", walk.worked(0, 0), 0);
        checks.due("apply(0, 0, 0)", walk.apply(0, 0, 0), 0);
        checks.due("what is passed isn't", walk.worked(0, 0), 0);
        walk.change(1, 1, 2);
        for (int times = 1; times <= 50; times++) {
            walk.change(0, times, 2);
            checks.due("apply(1, 0, 0)", walk.apply(1, 0, 0), 1);
            checks.due("worked(0, 0)", walk.worked(0, 0), times);
            checks.due("worked(1, 0)", walk.worked(1, 0), times);
        }
        checks.due("a clash", walk.apply(1, 0, 1), -2);
        checks.due("what clashes isn't", walk.worked(0, 0), 50);
        checks.due("what waits isn't", walk.worked(1, 0), 50);
        walk.change(1, 9, 2);
        checks.due("what is forgotten was", walk.worked(1, 0), 50);
        walk.apply(1, 0, 0);
        checks.due("worked(1, 0)", walk.worked(1, 0), 51);
        checks.due("what was not forgotten isn't", walk.worked(0, 0), 50);
    }

    private static void workedInAll(Checks checks) {
        AspectWalk walk = Start.full();
        for (int setting = 0; setting < 16; setting++) {
            walk.apply(19, 7, setting);
            checks.due("worked(19, 7)", walk.worked(19, 7), setting + 1);
            walk.apply(19, 7, 0);
        }
        walk.change(19, 2, 0);
        walk.apply(19, 7, 15);
        checks.due("worked(19, 7)", walk.worked(19, 7), 17);
        checks.due("another aspect", walk.worked(19, 6), 0);
        checks.due("another target", walk.worked(18, 7), 0);
    }

    private static void workedByAliases(Checks checks) {
        AspectWalk walk = Start.targets(2);
        walk.alias(1);
        walk.alias(2);
        walk.aspect(0, 0, 0, 0, -1);
        for (int target = 1; target < 4; target++) {
            walk.apply(target, 0, target);
            walk.apply(target, 0, 1);
        }
        for (int target = 1; target < 4; target++) {
            checks.due("worked(" + target + ", 0)", walk.worked(target, 0), 3);
        }
        checks.due("worked(0, 0)", walk.worked(0, 0), 0);
    }

    private static void workedOfNoneSuch(Checks checks) {
        AspectWalk walk = Start.busy();
        for (int none : Start.outside(0, 3)) {
            checks.due("target " + none, walk.worked(none, 0), 0);
        }
        for (int none : Start.outside(0, 1)) {
            checks.due("aspect " + none, walk.worked(3, none), 0);
        }
        AspectWalk full = Start.full();
        for (int i = 0; i < 20; i++) {
            full.apply(i, 0, 0);
        }
        checks.due("worked(20, 0)", full.worked(20, 0), 0);
        checks.due("worked(18, 8)", full.worked(18, 8), 0);
        checks.due("worked(1, -8)", full.worked(1, -8), 0);
    }

    private static void doneFromNoneToAll(Checks checks) {
        AspectWalk walk = Start.chain(20);
        checks.due("no aspect", walk.done(), 0);
        for (int aspect = 0; aspect < 8; aspect++) {
            walk.aspect(0, 1, 0, 0, -1);
            walk.need(aspect, aspect - 1);
        }
        checks.due("none yet", walk.done(), 0);
        for (int setting = 0; setting < 16; setting++) {
            walk.apply(19, 7, setting);
            checks.due("settings 0 to " + setting, walk.done(), 160 * (setting + 1));
        }
        checks.due("apply again", walk.apply(0, 0, 0), 1);
        checks.due("all that there can be", walk.done(), 2560);
        walk.change(19, 2, 0);
        checks.due("behind change(19)", walk.done(), 2432);
        walk.change(0, 2, 0);
        checks.due("behind change(0)", walk.done(), 0);
        walk.change(0, 3, 0);
        checks.due("behind change(0) again", walk.done(), 0);
    }

    private static void passedDoNotCount(Checks checks) {
        AspectWalk walk = Start.targets(2);
        walk.aspect(0, 0, 1, 0, -1);
        walk.apply(0, 0, 0);
        walk.apply(0, 0, 15);
        checks.due("two were passed", walk.done(), 0);
        walk.change(1, 1, 1);
        walk.apply(1, 0, 0);
        checks.due("one is done", walk.done(), 1);
        walk.change(0, 2, 0);
        checks.due("what was passed is forgotten", walk.done(), 1);
        walk.change(1, 1, 0);
        checks.due("what was done is forgotten", walk.done(), 0);
        walk.apply(1, 0, 0);
        checks.due("it was passed", walk.done(), 0);
    }
}
