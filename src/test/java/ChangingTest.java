/** Promises 5, 6, 8, 11, 13, 14 and 15 where something changes: what has changed, and nothing else. */
public final class ChangingTest {
    private static final Checks CHECKS = new Checks("ChangingTest");

    public static void main(String[] args) {
        changeForgetsWhatIsAbove();
        changeByWayOfAliases();
        changeByRowsThatItDoesNotGoAlong();
        changeOfNothingForgetsNothing();
        changeForgetsAllAspectsAndSettings();
        changeForgetsWhatWasPassed();
        addForgetsWhatIsAbove();
        addInAnotherOrderReachesAll();
        refusedAddForgetsNothing();
        newOnesForgetNothing();
        needForgetsAspects();
        needForgetsWhatWasPassed();
        refusedNeedForgetsNothing();
        outputsAreFreeAgain();
        workedIsKept();
        CHECKS.end();
    }

    /** 0 - 1 - 3 - 4 and 2 - 4, 5 apart; aspect 0 makes name 0 along all. */
    private static AspectWalk tree() {
        AspectWalk walk = new AspectWalk();
        for (int target = 0; target < 6; target++) {
            walk.target(1, 0);
        }
        walk.add(1, 0, 0);
        walk.add(3, 1, 1);
        walk.add(4, 2, 3);
        walk.add(4, 2, 2);
        walk.aspect(0, 7, 0, 0, 0);
        for (int target = 0; target < 6; target++) {
            walk.apply(target, 0, 0);
        }
        return walk;
    }

    private static void dueStates(String when, AspectWalk walk, int aspect, int... want) {
        int done = 0;
        for (int target = 0; target < want.length; target++) {
            CHECKS.due(when + " state(" + target + ", " + aspect + ", 0)",
                    walk.state(target, aspect, 0), want[target]);
            done += want[target] == 1 ? 1 : 0;
        }
        CHECKS.due(when + " done()", walk.done(), done);
    }

    private static void changeForgetsWhatIsAbove() {
        AspectWalk walk = tree();
        dueStates("before", walk, 0, 1, 1, 1, 1, 1, 1);
        CHECKS.due("change(1, 5, 0)", walk.change(1, 5, 0), true);
        dueStates("behind change(1)", walk, 0, 1, -1, 1, -1, -1, 1);
        int[] makers = {0, -1, 0, -1, -1, 0};
        for (int target = 0; target < 6; target++) {
            CHECKS.due("maker(" + target + ", 0)", walk.maker(target, 0), makers[target]);
        }
        CHECKS.due("result of what is forgotten", Checks.thrown(walk, 1, 0, 0),
                Checks.ILLEGAL_STATE);
        CHECKS.given(walk, 4, 0, 0, 1 + 1 + 1 + 5 + 1);
        int[] worked = {1, 2, 1, 2, 2, 1};
        for (int target = 0; target < 6; target++) {
            CHECKS.due("worked(" + target + ", 0)", walk.worked(target, 0), worked[target]);
        }
        walk.change(4, 9, 0);
        dueStates("behind change(4)", walk, 0, 1, 1, 1, 1, -1, 1);
        walk.change(0, 9, 0);
        dueStates("behind change(0)", walk, 0, -1, -1, 1, -1, -1, 1);
    }

    private static void changeByWayOfAliases() {
        AspectWalk walk = new AspectWalk();
        walk.target(1, 0);
        walk.alias(0);
        walk.alias(1);
        walk.target(2, 0);
        walk.alias(3);
        walk.target(3, 0);
        walk.target(4, 0);
        walk.add(3, 0, 2);
        walk.add(5, 0, 4);
        walk.aspect(0, 1, 0, 0, -1);
        CHECKS.given(walk, 5, 0, 0, 6);
        CHECKS.given(walk, 6, 0, 0, 4);
        walk.change(0, 10, 0);
        int[] states = {-1, -1, -1, -1, -1, -1, 1};
        for (int target = 0; target < 7; target++) {
            CHECKS.due("state(" + target + ")", walk.state(target, 0, 0), states[target]);
        }
        CHECKS.given(walk, 5, 0, 0, 15);
        CHECKS.due("done()", walk.done(), 4);
    }

    private static void changeByRowsThatItDoesNotGoAlong() {
        AspectWalk walk = new AspectWalk();
        walk.target(1, 0);
        walk.target(2, 0);
        walk.add(1, 2, 0);
        walk.aspect(0, 1, 0, 0, -1);
        walk.apply(1, 0, 0);
        walk.change(0, 7, 0);
        CHECKS.due("state(1, 0, 0)", walk.state(1, 0, 0), -1);
        CHECKS.given(walk, 1, 0, 0, 2);
        CHECKS.due("worked(1, 0)", walk.worked(1, 0), 2);
    }

    private static void changeOfNothingForgetsNothing() {
        AspectWalk walk = tree();
        CHECKS.due("change(0, 1, 0)", walk.change(0, 1, 0), true);
        dueStates("behind change of nothing", walk, 0, 1, 1, 1, 1, 1, 1);
        CHECKS.due("change(0, 1, 1)", walk.change(0, 1, 1), true);
        dueStates("behind providers", walk, 0, -1, -1, 1, -1, -1, 1);
    }

    private static void changeForgetsAllAspectsAndSettings() {
        AspectWalk walk = new AspectWalk();
        walk.target(1, 0);
        walk.target(1, 0);
        for (int aspect = 0; aspect < 8; aspect++) {
            walk.aspect(0, 0, 0, 0, -1);
            for (int setting = 0; setting < 16; setting++) {
                walk.apply(0, aspect, setting);
                walk.apply(1, aspect, setting);
            }
        }
        CHECKS.due("done()", walk.done(), 256);
        walk.change(0, 2, 0);
        CHECKS.due("done() behind", walk.done(), 128);
        CHECKS.due("state(0, 7, 15)", walk.state(0, 7, 15), -1);
        CHECKS.due("state(1, 7, 15)", walk.state(1, 7, 15), 1);
    }

    private static void changeForgetsWhatWasPassed() {
        AspectWalk walk = new AspectWalk();
        walk.target(1, 0);
        walk.target(2, 0);
        walk.target(3, 0);
        walk.add(1, 0, 0);
        walk.aspect(0, 1, 4, 0, -1);
        for (int target = 0; target < 3; target++) {
            CHECKS.passed(walk, target, 0, 0);
        }
        walk.change(0, 9, 0);
        dueStates("behind change", walk, 0, -1, -1, 0);
        walk.change(0, 9, 4);
        walk.change(1, 2, 4);
        CHECKS.given(walk, 1, 0, 0, 11);
        walk.change(0, 9, 3);
        CHECKS.given(walk, 1, 0, 0, 2);
        CHECKS.due("state(0, 0, 0)", walk.state(0, 0, 0), 0);
    }

    private static void addForgetsWhatIsAbove() {
        AspectWalk walk = tree();
        CHECKS.due("add(3, 0, 2)", walk.add(3, 0, 2), true);
        dueStates("behind add", walk, 0, 1, 1, 1, -1, -1, 1);
        CHECKS.due("maker(3, 0)", walk.maker(3, 0), -1);
        CHECKS.due("maker(4, 0)", walk.maker(4, 0), -1);
        CHECKS.due("maker(2, 0)", walk.maker(2, 0), 0);
        CHECKS.given(walk, 4, 0, 0, 1 + (1 + 1 + 2) + 1);
        walk.change(2, 5, 0);
        dueStates("behind change(2)", walk, 0, 1, 1, -1, -1, -1, 1);
    }

    private static void addInAnotherOrderReachesAll() {
        AspectWalk walk = new AspectWalk();
        for (int target = 0; target < 20; target++) {
            walk.target(1, 0);
        }
        for (int target = 2; target < 20; target += 2) {
            walk.add(target, 0, target - 1);
        }
        for (int target = 19; target > 0; target -= 2) {
            walk.add(target, 0, target - 1);
        }
        walk.aspect(0, 1, 0, 0, -1);
        CHECKS.given(walk, 19, 0, 0, 20);
        walk.change(0, 2, 0);
        CHECKS.due("done()", walk.done(), 0);
        CHECKS.given(walk, 19, 0, 0, 21);
        walk.change(10, 2, 0);
        CHECKS.due("done()", walk.done(), 10);
    }

    private static void refusedAddForgetsNothing() {
        AspectWalk walk = tree();
        walk.add(1, 3, 0);
        walk.add(1, 0, 1);
        walk.add(1, 0, -1);
        walk.add(6, 0, 1);
        dueStates("behind refused adds", walk, 0, 1, 1, 1, 1, 1, 1);
    }

    private static void newOnesForgetNothing() {
        AspectWalk walk = tree();
        walk.target(1, 0);
        walk.alias(3);
        walk.aspect(0, 7, 0, 0, 0);
        dueStates("behind new ones", walk, 0, 1, 1, 1, 1, 1, 1);
        CHECKS.due("the new target", walk.state(6, 0, 0), -1);
        CHECKS.due("the new alias", walk.state(7, 0, 0), 1);
        CHECKS.due("the new aspect", walk.state(3, 1, 0), -1);
    }

    /** Aspect 2 needs 1, which needs 0; 3 needs 0; 4 and 5 are apart; all make outputs. */
    private static AspectWalk chain() {
        AspectWalk walk = new AspectWalk();
        walk.target(1, 0);
        walk.target(10, 0);
        for (int aspect = 0; aspect < 6; aspect++) {
            walk.aspect(0, 0, 0, 0, aspect);
        }
        walk.need(1, 0);
        walk.need(2, 1);
        walk.need(3, 0);
        for (int aspect = 0; aspect < 6; aspect++) {
            walk.apply(0, aspect, 1);
            walk.apply(1, aspect, 2);
        }
        return walk;
    }

    private static void dueAspects(String when, AspectWalk walk, int... want) {
        for (int aspect = 0; aspect < want.length; aspect++) {
            int maker = want[aspect] == 1 ? aspect : -1;
            CHECKS.due(when + " state(0, " + aspect + ", 1)", walk.state(0, aspect, 1), want[aspect]);
            CHECKS.due(when + " state(1, " + aspect + ", 2)", walk.state(1, aspect, 2), want[aspect]);
            CHECKS.due(when + " maker(0, " + aspect + ")", walk.maker(0, aspect), maker);
            CHECKS.due(when + " maker(1, " + aspect + ")", walk.maker(1, aspect), maker);
        }
    }

    private static void needForgetsAspects() {
        AspectWalk walk = chain();
        CHECKS.due("done()", walk.done(), 12);
        CHECKS.due("need(1, 4)", walk.need(1, 4), 1);
        dueAspects("behind need(1, 4)", walk, 1, -1, -1, 1, 1, 1);
        CHECKS.due("done()", walk.done(), 8);
        CHECKS.given(walk, 0, 2, 1, 2 + 2 + 2 + 2);
        CHECKS.due("need(4, 5)", walk.need(4, 5), 1);
        CHECKS.due("state(0, 2, 1)", walk.state(0, 2, 1), -1);
        dueAspects("behind need(4, 5)", walk, 1, -1, -1, 1, -1, 1);
        CHECKS.due("need(0, 5)", walk.need(0, 5), 1);
        dueAspects("behind need(0, 5)", walk, -1, -1, -1, -1, -1, 1);
        CHECKS.due("done()", walk.done(), 2);
        CHECKS.given(walk, 0, 2, 1, 2 + (2 + (2 + 2) + (2 + 2)));
    }

    private static void needForgetsWhatWasPassed() {
        AspectWalk walk = new AspectWalk();
        walk.target(1, 0);
        walk.aspect(0, 0, 1, 0, -1);
        walk.aspect(0, 0, 0, 1, -1);
        walk.aspect(0, 0, 1, 0, -1);
        walk.need(2, 0);
        CHECKS.passed(walk, 0, 2, 0);
        CHECKS.due("state(0, 0, 0)", walk.state(0, 0, 0), 0);
        walk.need(0, 1);
        CHECKS.due("state(0, 0, 0)", walk.state(0, 0, 0), -1);
        CHECKS.due("state(0, 2, 0)", walk.state(0, 2, 0), -1);
        CHECKS.passed(walk, 0, 2, 0);
        CHECKS.due("result(0, 0, 0)", walk.result(0, 0, 0), 2);
    }

    private static void refusedNeedForgetsNothing() {
        AspectWalk walk = chain();
        CHECKS.due("a need that is", walk.need(1, 0), -1);
        CHECKS.due("a ring", walk.need(0, 2), -2);
        CHECKS.due("itself", walk.need(4, 4), -2);
        CHECKS.due("none such", walk.need(0, 6), -1);
        dueAspects("behind refused needs", walk, 1, 1, 1, 1, 1, 1);
        CHECKS.due("done()", walk.done(), 12);
    }

    private static void outputsAreFreeAgain() {
        AspectWalk walk = new AspectWalk();
        walk.target(1, 0);
        walk.target(2, 0);
        walk.add(1, 0, 0);
        walk.aspect(0, 0, 0, 0, 4);
        walk.aspect(0, 0, 0, 0, 4);
        walk.aspect(0, 0, 0, 0, -1);
        walk.apply(1, 0, 0);
        walk.change(0, 5, 0);
        CHECKS.given(walk, 1, 1, 3, 5);
        CHECKS.due("maker(1, 4)", walk.maker(1, 4), 1);
        CHECKS.clashed(walk, 1, 0, 0, 1, 0, 0, 1, 3);
        // Another aspect with that name is forgotten, but the output isn't its.
        CHECKS.due("need(0, 2)", walk.need(0, 2), 1);
        CHECKS.due("maker(1, 4)", walk.maker(1, 4), 1);
        CHECKS.due("need(1, 2)", walk.need(1, 2), 1);
        CHECKS.due("maker(1, 4)", walk.maker(1, 4), -1);
        CHECKS.given(walk, 1, 0, 8, 20);
    }

    private static void workedIsKept() {
        AspectWalk walk = new AspectWalk();
        walk.target(0, 0);
        walk.alias(0);
        walk.aspect(0, 0, 0, 0, -1);
        for (int i = 1; i <= 100; i++) {
            walk.change(0, i, 0);
            walk.apply(i & 1, 0, i & 15);
            CHECKS.due("worked(1, 0)", walk.worked(1, 0), i);
            CHECKS.due("done()", walk.done(), 1);
        }
        walk.change(0, 0, 0);
        CHECKS.due("worked(0, 0)", walk.worked(0, 0), 100);
    }
}
