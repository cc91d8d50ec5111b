/** The document's first sentence, clause by clause: the whole in small. */
final class OverviewSentences {
    private static final int BASE = 0;
    private static final int LEFT = 1;
    private static final int RIGHT = 2;
    private static final int LEFT_ALIAS = 3;
    private static final int TOP = 4;
    private static final int SUM = 0;

    private OverviewSentences() {
    }

    static void hold(Sentences sentences) {
        sentences.whatItIs("Aspects that go along the attributes of targets",
                OverviewSentences::aspectsGoAlong);
        sentences.whatItIs("each done once for a target and a setting",
                OverviewSentences::eachIsDoneOnce);
        sentences.whatItIs("what it gives joined from below", OverviewSentences::joinedFromBelow);
        sentences.whatItIs("after the aspects that it needs", OverviewSentences::afterItsNeeds);
        sentences.whatItIs("targets that lack what it wants are passed",
                OverviewSentences::lackingTargetsArePassed);
        sentences.whatItIs("aliases lead on", OverviewSentences::aliasesLeadOn);
        sentences.whatItIs("outputs that two would make are told",
                OverviewSentences::outputsOfTwoAreTold);
        sentences.whatItIs("what has changed is done anew, and nothing else.",
                OverviewSentences::onlyWhatHasChanged);
    }

    /**
     * TOP has LEFT (by its alias) and RIGHT in row 0, and BASE in row 1; these two have BASE in row
     * 0. Aspect SUM goes along attribute 0. RIGHT alone lacks provider 0; SUM gives provider 1.
     */
    private static AspectWalk diamond() {
        AspectWalk walk = new AspectWalk();
        walk.target(1, 1);
        walk.target(10, 1);
        walk.target(100, 0);
        walk.alias(LEFT);
        walk.target(1000, 1);
        walk.add(LEFT, 0, BASE);
        walk.add(RIGHT, 0, BASE);
        walk.add(TOP, 0, LEFT_ALIAS);
        walk.add(TOP, 0, RIGHT);
        walk.add(TOP, 1, BASE);
        walk.aspect(0, 1, 0, 2, -1);
        return walk;
    }

    private static void dueWorked(Checks checks, AspectWalk walk, int... want) {
        for (int target = 0; target < want.length; target++) {
            checks.due("worked(" + target + ", 0)", walk.worked(target, SUM), want[target]);
        }
    }

    private static void aspectsGoAlong(Checks checks) {
        AspectWalk walk = diamond();
        checks.given(walk, TOP, SUM, 0, 1000 + (10 + 1) + (100 + 1));
        int alongOne = walk.aspect(0, 2, 0, 0, -1);
        checks.given(walk, TOP, alongOne, 0, 1000 + 1);
        checks.dueStates("along attribute 1", walk, alongOne, 0, 1, -1, -1, -1, 1);
        int alongNone = walk.aspect(0, 0, 0, 0, -1);
        checks.given(walk, TOP, alongNone, 0, 1000);
        checks.dueStates("along none", walk, alongNone, 0, -1, -1, -1, -1, 1);
        int alongAll = walk.aspect(0, 7, 0, 0, -1);
        checks.given(walk, TOP, alongAll, 0, 1000 + (10 + 1) + (100 + 1) + 1);
    }

    private static void eachIsDoneOnce(Checks checks) {
        AspectWalk walk = diamond();
        walk.apply(LEFT, SUM, 0);
        walk.apply(TOP, SUM, 0);
        walk.apply(TOP, SUM, 0);
        dueWorked(checks, walk, 1, 1, 1, 1, 1);
        checks.due("done()", walk.done(), 4);
        walk.apply(TOP, SUM, 5);
        dueWorked(checks, walk, 2, 2, 2, 2, 2);
        checks.due("done() with another setting", walk.done(), 8);
    }

    private static void joinedFromBelow(Checks checks) {
        AspectWalk walk = diamond();
        long mixed = 31 * (31 * 1000 + (31 * 10 + 1)) + (31 * 100 + 1);
        long[] given = {1112, 1000, mixed, 5};
        for (int kind = 0; kind < 4; kind++) {
            int aspect = walk.aspect(kind, 1, 0, 0, -1);
            checks.given(walk, TOP, aspect, 0, given[kind]);
        }
        walk.change(BASE, 5000, 1);
        checks.given(walk, TOP, 2, 0, 5000);
    }

    private static void afterItsNeeds(Checks checks) {
        AspectWalk walk = diamond();
        int needing = walk.aspect(2, 0, 2, 0, -1);
        checks.passed(walk, TOP, needing, 0);
        walk.need(needing, SUM);
        checks.given(walk, TOP, needing, 0, 31 * 1000 + 1112);
        checks.dueStates("what it needs", walk, SUM, 0, 1, 1, 1, 1, 1);
    }

    private static void lackingTargetsArePassed(Checks checks) {
        AspectWalk walk = diamond();
        int wanting = walk.aspect(0, 1, 1, 0, -1);
        checks.given(walk, TOP, wanting, 0, 1000 + (10 + 1));
        checks.dueStates("behind it", walk, wanting, 0, 1, 1, 0, 1, 1);
        checks.passed(walk, RIGHT, wanting, 0);
        checks.due("done()", walk.done(), 3);
    }

    private static void aliasesLeadOn(Checks checks) {
        AspectWalk walk = diamond();
        int alias = walk.alias(walk.alias(TOP));
        checks.due("stands", walk.stands(alias), TOP);
        checks.given(walk, alias, SUM, 3, 1003 + (13 + 4) + (103 + 4));
        checks.due("state of what it stands for", walk.state(TOP, SUM, 3), 1);
        checks.due("state of an alias in a row", walk.state(LEFT_ALIAS, SUM, 3), 1);
        checks.due("done()", walk.done(), 4);
        walk.change(LEFT, 11, 1);
        checks.due("state behind a change", walk.state(alias, SUM, 3), -1);
    }

    private static void outputsOfTwoAreTold(Checks checks) {
        AspectWalk walk = diamond();
        int first = walk.aspect(0, 1, 0, 0, 7);
        int second = walk.aspect(3, 0, 0, 0, 7);
        checks.given(walk, LEFT, first, 2, 12 + 3);
        checks.dueMakers("behind it", walk, 7, first, first, -1, first, -1);
        checks.clashed(walk, TOP, first, 3, BASE, first, 3, first, 2);
        checks.clashed(walk, LEFT_ALIAS, second, 2, LEFT, second, 2, first, 2);
        checks.given(walk, RIGHT, second, 2, 1);
        checks.clashed(walk, TOP, first, 2, RIGHT, first, 2, second, 2);
    }

    private static void onlyWhatHasChanged(Checks checks) {
        AspectWalk walk = diamond();
        checks.given(walk, TOP, SUM, 0, 1112);
        walk.change(RIGHT, 200, 0);
        checks.dueStates("behind a change", walk, SUM, 0, 1, 1, -1, 1, -1);
        checks.given(walk, TOP, SUM, 0, 1212);
        dueWorked(checks, walk, 1, 1, 2, 1, 2);
        walk.add(LEFT, 2, BASE);
        checks.given(walk, TOP, SUM, 0, 1212);
        dueWorked(checks, walk, 1, 2, 2, 2, 3);
        int other = walk.aspect(0, 0, 0, 0, -1);
        checks.given(walk, BASE, other, 0, 1);
        walk.need(SUM, other);
        checks.given(walk, TOP, SUM, 0, 1212 + 1000 + 200 + 10 + 1 + 1);
        dueWorked(checks, walk, 2, 3, 3, 3, 4);
        checks.due("what it needs", walk.worked(BASE, other), 1);
    }
}
