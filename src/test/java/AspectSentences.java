/** Promises 7 and 8, with the terms of aspects. */
final class AspectSentences {
    private AspectSentences() {
    }

    static void hold(Sentences sentences) {
        holdTerms(sentences);
        sentences.promise(7, "A new ASPECT: its number", AspectSentences::aspectIsItsNumber);
        sentences.promise(7, "NONE if there are 8", AspectSentences::aspectIsNoneAt8);
        sentences.promise(7, "no such KIND (0 .. 3)", AspectSentences::aspectOfNoKind);
        sentences.promise(7, "or NAME isn't NONE .. 9.", AspectSentences::aspectOfNoName);
        sentences.promise(7, "(Of ALONG three bits count", AspectSentences::alongCountsThreeBits);
        sentences.promise(7, "of WANTS and GIVES eight.)",
                AspectSentences::wantsAndGivesCountEightBits);
        sentences.promise(8, "An ASPECT NEEDS another one more: 1",
                AspectSentences::needIsOneMore);
        sentences.promise(8, "- 1 if there are none such", AspectSentences::needOfNoAspect);
        sentences.promise(8, "it does already", AspectSentences::needThatIs);
        sentences.promise(8, "or it has 3", AspectSentences::needBeyondThree);
        sentences.promise(8, "else - 2 if a ring would be.", AspectSentences::needThatMakesARing);
    }

    private static void holdTerms(Sentences sentences) {
        sentences.terms("ASPECTS, at most 8, numbered from 0,", AspectSentences::eightAspects);
        sentences.terms("have a KIND, go ALONG ATTRIBUTES (bits 0 .. 2)",
                AspectSentences::attributesThatItGoesAlong);
        sentences.terms("WANT PROVIDERS and GIVE PROVIDERS (bits 0 .. 7)",
                AspectSentences::eightProvidersAreGiven);
        sentences.terms("make OUTPUTS with a NAME (0 .. 9, or none)", AspectSentences::tenNames);
        sentences.terms("and NEED others, at most 3, in order", AspectSentences::threeNeedsInOrder);
        sentences.terms("(rings can't be)", AspectSentences::noRingOfAll);
    }

    private static void eightAspects(Checks checks) {
        AspectWalk walk = Start.targets(1);
        for (int number = 0; number < 8; number++) {
            checks.due("not there yet", walk.apply(0, number, 0), -1);
            checks.due("aspect " + number, walk.aspect(0, 0, 0, 0, -1), number);
            checks.due("there now", walk.apply(0, number, 0), 1);
        }
        checks.due("a ninth", walk.aspect(0, 0, 0, 0, -1), -1);
        checks.due("apply(0, 8, 0)", walk.apply(0, 8, 0), -1);
        checks.due("done()", walk.done(), 8);
    }

    private static void attributesThatItGoesAlong(Checks checks) {
        AspectWalk walk = Start.fan();
        for (int along = 0; along < 8; along++) {
            walk.aspect(0, along, 0, 0, -1);
            checks.given(walk, 3, along, 0, 8 + along);
            for (int below = 0; below < 3; below++) {
                int want = (along >> below & 1) == 1 ? 1 : -1;
                checks.due("state(" + below + ")", walk.state(below, along, 0), want);
            }
        }
    }

    private static void eightProvidersAreGiven(Checks checks) {
        for (int given = 0; given < 8; given++) {
            AspectWalk walk = Start.targets(1);
            walk.aspect(0, 0, 0, 1 << given, -1);
            for (int wanted = 0; wanted < 7; wanted++) {
                int bit = (given + wanted) & 7;
                int aspect = walk.aspect(0, 0, 1 << bit, 0, -1);
                walk.need(aspect, 0);
                checks.due("provider " + given + " where " + bit + " is wanted",
                        walk.apply(0, aspect, 0), given == bit ? 1 : 0);
            }
        }
    }

    private static void tenNames(Checks checks) {
        AspectWalk low = Start.targets(1);
        AspectWalk high = Start.targets(1);
        for (int aspect = 0; aspect < 7; aspect++) {
            checks.due("name " + aspect, low.aspect(0, 0, 0, 0, aspect), aspect);
            checks.due("name " + (9 - aspect), high.aspect(0, 0, 0, 0, 9 - aspect), aspect);
            checks.due("no clash", low.apply(0, aspect, aspect), 1);
            checks.due("no clash", high.apply(0, aspect, aspect), 1);
        }
        for (int aspect = 0; aspect < 7; aspect++) {
            checks.due("maker(0, " + aspect + ")", low.maker(0, aspect), aspect);
            checks.due("maker(0, " + (9 - aspect) + ")", high.maker(0, 9 - aspect), aspect);
        }
        low.aspect(0, 0, 0, 0, -1);
        for (int setting = 0; setting < 16; setting++) {
            checks.due("without a name nothing clashes", low.apply(0, 7, setting), 1);
        }
    }

    private static void threeNeedsInOrder(Checks checks) {
        AspectWalk walk = Start.targets(1);
        for (int kind = 0; kind < 3; kind++) {
            walk.aspect(0, 0, 0, 0, -1);
            walk.need(kind, kind - 1);
        }
        walk.aspect(2, 0, 0, 0, -1);
        checks.due("the first", walk.need(3, 1), 1);
        checks.due("the second", walk.need(3, 2), 1);
        checks.due("the third", walk.need(3, 0), 1);
        walk.aspect(0, 0, 0, 0, -1);
        checks.due("a fourth", walk.need(3, 4), -1);
        long expected = 31 * (31 * (31 * 1 + 2) + 3) + 1;
        checks.given(walk, 0, 3, 0, expected);
        checks.due("the fourth is not done", walk.state(0, 4, 0), -1);
    }

    private static void noRingOfAll(Checks checks) {
        AspectWalk walk = Start.aspects(8);
        walk.target(1, 0);
        for (int aspect = 0; aspect < 7; aspect++) {
            checks.due("need(" + aspect + ", next)", walk.need(aspect, aspect + 1), 1);
        }
        checks.due("the ring of all eight", walk.need(7, 0), -2);
        checks.given(walk, 0, 0, 0, 8);
    }

    private static void aspectIsItsNumber(Checks checks) {
        AspectWalk walk = new AspectWalk();
        for (int number = 0; number < 8; number++) {
            checks.due("refused before", walk.aspect(-1, 0, 0, 0, 0), -1);
            checks.due("aspect " + number, walk.aspect(number % 4, -1, -1, -1, 9), number);
        }
    }

    private static void aspectIsNoneAt8(Checks checks) {
        AspectWalk walk = Start.busy();
        for (int number = 2; number < 8; number++) {
            checks.due("aspect " + number, walk.aspect(3, 0, 0, 0, 9), number);
        }
        walk.apply(0, 7, 15);
        String before = Look.at(walk);
        checks.due("the ninth", walk.aspect(0, 0, 0, 0, -1), -1);
        checks.due("the ninth again", walk.aspect(3, 7, 255, 255, 9), -1);
        checks.unchanged("behind them", walk, before);
        checks.due("result(0, 7, 15)", walk.result(0, 7, 15), 1);
        checks.due("apply(0, 8, 0)", walk.apply(0, 8, 0), -1);
        checks.due("need(8, 0)", walk.need(8, 0), -1);
    }

    private static void aspectOfNoKind(Checks checks) {
        AspectWalk walk = Start.busy();
        String before = Look.at(walk);
        for (int none : Start.outside(0, 3)) {
            checks.due("kind " + none, walk.aspect(none, 0, 0, 0, 0), -1);
        }
        checks.unchanged("behind them", walk, before);
        for (int kind = 0; kind < 4; kind++) {
            checks.due("kind " + kind, walk.aspect(kind, 0, 0, 0, -1), 2 + kind);
        }
        long[] given = {3, 3, 3, 1};
        for (int kind = 0; kind < 4; kind++) {
            checks.given(walk, 0, 2 + kind, 2, given[kind]);
        }
    }

    private static void aspectOfNoName(Checks checks) {
        AspectWalk walk = Start.busy();
        String before = Look.at(walk);
        for (int none : Start.outside(-1, 9)) {
            checks.due("name " + none, walk.aspect(0, 0, 0, 0, none), -1);
        }
        checks.unchanged("behind them", walk, before);
        checks.due("name -1", walk.aspect(0, 0, 0, 0, -1), 2);
        checks.due("name 0", walk.aspect(0, 0, 0, 0, 0), 3);
        checks.due("name 9", walk.aspect(0, 0, 0, 0, 9), 4);
        walk.apply(3, 4, 0);
        checks.due("maker(3, 9)", walk.maker(3, 9), 4);
    }

    private static void alongCountsThreeBits(Checks checks) {
        AspectWalk walk = Start.fan();
        int[] alongs = {8, -8, -1, 0x14, 0x7ffffffa, Integer.MIN_VALUE};
        for (int aspect = 0; aspect < alongs.length; aspect++) {
            walk.aspect(0, alongs[aspect], 0, 0, -1);
            checks.given(walk, 3, aspect, 0, 8 + (alongs[aspect] & 7));
        }
    }

    private static void wantsAndGivesCountEightBits(Checks checks) {
        AspectWalk walk = Start.targets(1);
        walk.aspect(0, 0, 0x100, 0x1ff, -1);
        walk.aspect(0, 0, ~0xff, ~0xff, -1);
        walk.aspect(0, 0, 0x180, 0, -1);
        walk.aspect(0, 0, -1, 0, -1);
        walk.aspect(0, 0, 0xff, 0, -1);
        checks.given(walk, 0, 0, 0, 1);
        checks.given(walk, 0, 1, 0, 1);
        for (int aspect = 2; aspect < 5; aspect++) {
            checks.passed(walk, 0, aspect, 0);
            walk.need(aspect, 1);
            checks.passed(walk, 0, aspect, 0);
            walk.need(aspect, 0);
            checks.given(walk, 0, aspect, 0, 3);
        }
    }

    private static void needIsOneMore(Checks checks) {
        AspectWalk walk = Start.aspects(8);
        walk.target(1, 0);
        checks.due("need(0, 7)", walk.need(0, 7), 1);
        checks.given(walk, 0, 0, 0, 2);
        checks.due("need(0, 1)", walk.need(0, 1), 1);
        checks.given(walk, 0, 0, 0, 3);
        checks.due("need(7, 1), also by way of others", walk.need(7, 1), 1);
        checks.given(walk, 0, 0, 0, 4);
        checks.due("need(0, 2)", walk.need(0, 2), 1);
        checks.given(walk, 0, 0, 0, 5);
        checks.due("need(3, 0)", walk.need(3, 0), 1);
        checks.due("need(3, 7), needed by way of 0 already", walk.need(3, 7), 1);
        checks.given(walk, 0, 3, 0, 8);
    }

    private static void needOfNoAspect(Checks checks) {
        AspectWalk walk = Start.busy();
        String before = Look.at(walk);
        for (int none : Start.outside(0, 1)) {
            checks.due("need(" + none + ", 0)", walk.need(none, 0), -1);
            checks.due("need(0, " + none + ")", walk.need(0, none), -1);
            checks.due("need of itself, " + none, walk.need(none, none), -1);
        }
        checks.unchanged("behind them", walk, before);
        AspectWalk full = Start.aspects(8);
        for (int none : Start.outside(0, 7)) {
            checks.due("need(" + none + ", 7) of 8", full.need(none, 7), -1);
            checks.due("need(7, " + none + ") of 8", full.need(7, none), -1);
        }
    }

    private static void needThatIs(Checks checks) {
        AspectWalk walk = Start.busy();
        walk.aspect(0, 0, 0, 0, -1);
        walk.aspect(0, 0, 0, 0, -1);
        walk.need(1, 2);
        walk.need(1, 3);
        walk.apply(3, 1, 0);
        String before = Look.at(walk);
        checks.due("the first again", walk.need(1, 0), -1);
        checks.due("the second again", walk.need(1, 2), -1);
        checks.due("the last again", walk.need(1, 3), -1);
        checks.unchanged("behind them", walk, before);
        AspectWalk roomy = Start.aspects(3);
        checks.due("need(0, 1)", roomy.need(0, 1), 1);
        checks.due("need(0, 1) again, with room", roomy.need(0, 1), -1);
        checks.due("need(0, 2)", roomy.need(0, 2), 1);
        checks.due("need(0, 2) again, with room", roomy.need(0, 2), -1);
        checks.due("need(0, 1) a third time", roomy.need(0, 1), -1);
    }

    private static void needBeyondThree(Checks checks) {
        AspectWalk walk = Start.busy();
        for (int aspect = 2; aspect < 8; aspect++) {
            walk.aspect(0, 0, 0, 0, -1);
        }
        checks.due("the second", walk.need(1, 7), 1);
        checks.due("the third", walk.need(1, 3), 1);
        checks.due("what needs it", walk.need(5, 1), 1);
        walk.apply(3, 1, 0);
        String before = Look.at(walk);
        checks.due("a fourth", walk.need(1, 4), -1);
        checks.due("a fourth that would be a ring", walk.need(1, 5), -1);
        checks.due("a fourth that is itself", walk.need(1, 1), -1);
        checks.unchanged("behind them", walk, before);
        checks.due("another aspect's need", walk.need(2, 4), 1);
    }

    private static void needThatMakesARing(Checks checks) {
        AspectWalk walk = Start.busy();
        String before = Look.at(walk);
        checks.due("itself", walk.need(0, 0), -2);
        checks.due("itself, with needs", walk.need(1, 1), -2);
        checks.due("a ring of two", walk.need(0, 1), -2);
        checks.unchanged("behind them", walk, before);
        AspectWalk joined = Start.aspects(6);
        int[][] needs = {{4, 5}, {0, 1}, {2, 3}, {1, 2}, {3, 4}};
        for (int[] need : needs) {
            checks.due("joining", joined.need(need[0], need[1]), 1);
        }
        for (int below = 1; below < 6; below++) {
            for (int above = 0; above <= below; above++) {
                checks.due("need(" + below + ", " + above + ")", joined.need(below, above), -2);
            }
        }
        checks.due("no ring", joined.need(0, 5), 1);
        checks.due("no ring", joined.need(0, 3), 1);
        checks.due("without room no ring is told", joined.need(0, 4), -1);
        checks.due("itself, without room", joined.need(0, 0), -1);
    }
}
