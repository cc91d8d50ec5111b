/** Promises 9, 10 and 15 where outputs are made: apply that clashes, clash and maker. */
public final class ClashTest {
    private static final Checks CHECKS = new Checks("ClashTest");

    public static void main(String[] args) {
        outputsHaveMakers();
        anotherSettingClashes();
        anotherAspectClashes();
        aNeedWithTheSameNameClashes();
        aClashEndsAllThatWait();
        aClashInANeedEndsAll();
        whatWasDoneBeforeStays();
        aClashIsTriedAnew();
        passedMakesNothing();
        aliasesShareOutputs();
        clashTellsTheLatest();
        clashOfWrongInputs();
        CHECKS.end();
    }

    private static void outputsHaveMakers() {
        AspectWalk walk = new AspectWalk();
        walk.target(1, 0);
        walk.target(2, 0);
        walk.add(1, 0, 0);
        walk.aspect(0, 0, 0, 0, -1);
        walk.aspect(0, 1, 0, 0, 0);
        walk.aspect(0, 0, 0, 0, 9);
        walk.apply(1, 0, 0);
        walk.apply(1, 0, 1);
        for (int name = -1; name < 11; name++) {
            CHECKS.due("maker(1, " + name + ")", walk.maker(1, name), -1);
        }
        walk.apply(1, 1, 0);
        walk.apply(1, 2, 3);
        CHECKS.due("maker(1, 0)", walk.maker(1, 0), 1);
        CHECKS.due("maker(0, 0)", walk.maker(0, 0), 1);
        CHECKS.due("maker(1, 9)", walk.maker(1, 9), 2);
        CHECKS.due("maker(0, 9)", walk.maker(0, 9), -1);
        CHECKS.due("maker(1, 1)", walk.maker(1, 1), -1);
        CHECKS.due("maker(0, 10)", walk.maker(0, 10), -1);
        CHECKS.due("maker(1, -10)", walk.maker(1, -10), -1);
        CHECKS.due("apply again", walk.apply(1, 1, 0), 1);
    }

    private static void anotherSettingClashes() {
        AspectWalk walk = new AspectWalk();
        walk.target(1, 0);
        walk.aspect(0, 0, 0, 0, 5);
        CHECKS.given(walk, 0, 0, 7, 8);
        CHECKS.clashed(walk, 0, 0, 6, 0, 0, 6, 0, 7);
        CHECKS.due("state(0, 0, 6)", walk.state(0, 0, 6), -1);
        CHECKS.due("result(0, 0, 6)", Checks.thrown(walk, 0, 0, 6), Checks.ILLEGAL_STATE);
        CHECKS.given(walk, 0, 0, 7, 8);
        CHECKS.due("worked(0, 0)", walk.worked(0, 0), 1);
        CHECKS.due("done()", walk.done(), 1);
    }

    private static void anotherAspectClashes() {
        AspectWalk walk = new AspectWalk();
        walk.target(1, 0);
        walk.target(2, 0);
        walk.aspect(0, 0, 0, 0, 5);
        walk.aspect(1, 0, 0, 0, 5);
        walk.aspect(1, 0, 0, 0, 6);
        CHECKS.given(walk, 1, 1, 2, 4);
        CHECKS.clashed(walk, 1, 0, 2, 1, 0, 2, 1, 2);
        CHECKS.given(walk, 1, 2, 3, 5);
        CHECKS.given(walk, 0, 0, 2, 3);
        CHECKS.due("maker(1, 5)", walk.maker(1, 5), 1);
        CHECKS.due("maker(0, 5)", walk.maker(0, 5), 0);
    }

    private static void aNeedWithTheSameNameClashes() {
        AspectWalk walk = new AspectWalk();
        walk.target(1, 0);
        walk.aspect(0, 0, 0, 0, 2);
        walk.aspect(0, 0, 0, 0, 2);
        walk.need(1, 0);
        CHECKS.clashed(walk, 0, 1, 4, 0, 1, 4, 0, 4);
        CHECKS.due("the need is done", walk.state(0, 0, 4), 1);
        CHECKS.due("maker(0, 2)", walk.maker(0, 2), 0);
    }

    /** Row 0 of 3 is 0, 1, 2; 1 has an output of another setting. */
    private static AspectWalk clashInTheMiddle() {
        AspectWalk walk = new AspectWalk();
        for (int target = 0; target < 5; target++) {
            walk.target(target, 0);
        }
        walk.add(3, 0, 0);
        walk.add(3, 0, 1);
        walk.add(3, 0, 2);
        walk.add(4, 1, 3);
        walk.aspect(0, 3, 0, 0, 1);
        walk.apply(1, 0, 9);
        return walk;
    }

    private static void aClashEndsAllThatWait() {
        AspectWalk walk = clashInTheMiddle();
        CHECKS.clashed(walk, 4, 0, 8, 1, 0, 8, 0, 9);
        int[] states = {1, -1, -1, -1, -1};
        int[] makers = {0, 0, -1, -1, -1};
        int[] worked = {1, 1, 0, 0, 0};
        for (int target = 0; target < 5; target++) {
            CHECKS.due("state(" + target + ")", walk.state(target, 0, 8), states[target]);
            CHECKS.due("maker(" + target + ")", walk.maker(target, 1), makers[target]);
            CHECKS.due("worked(" + target + ")", walk.worked(target, 0), worked[target]);
        }
        CHECKS.due("done()", walk.done(), 2);
    }

    private static void aClashInANeedEndsAll() {
        AspectWalk walk = new AspectWalk();
        walk.target(1, 0);
        walk.target(2, 0);
        walk.add(1, 0, 0);
        walk.aspect(0, 0, 0, 0, 3);
        walk.aspect(0, 0, 0, 0, -1);
        walk.aspect(0, 0, 16, 0, -1);
        walk.aspect(0, 1, 0, 0, -1);
        walk.need(3, 2);
        walk.need(3, 0);
        walk.need(3, 1);
        walk.apply(1, 0, 0);
        CHECKS.clashed(walk, 1, 3, 1, 1, 0, 1, 0, 0);
        CHECKS.due("the passed need before", walk.state(1, 2, 1), 0);
        CHECKS.due("the need that clashes", walk.state(1, 0, 1), -1);
        CHECKS.due("the need behind", walk.state(1, 1, 1), -1);
        CHECKS.due("what waits", walk.state(1, 3, 1), -1);
        CHECKS.due("below what waits", walk.state(0, 3, 1), -1);
    }

    private static void whatWasDoneBeforeStays() {
        AspectWalk walk = clashInTheMiddle();
        walk.apply(3, 0, 8);
        CHECKS.due("result(0, 0, 8)", walk.result(0, 0, 8), 8);
        CHECKS.clashed(walk, 0, 0, 7, 0, 0, 7, 0, 8);
        // The need and all below are done before an own output clashes.
        AspectWalk late = new AspectWalk();
        late.target(1, 0);
        late.target(2, 0);
        late.add(1, 2, 0);
        late.aspect(0, 4, 0, 0, 0);
        late.aspect(0, 0, 0, 0, 7);
        late.aspect(0, 0, 0, 0, 0);
        late.need(0, 1);
        late.apply(1, 2, 5);
        CHECKS.clashed(late, 1, 0, 5, 1, 0, 5, 2, 5);
        CHECKS.due("below", late.state(0, 0, 5), 1);
        CHECKS.due("need", late.state(1, 1, 5), 1);
        CHECKS.due("need below", late.state(0, 1, 5), 1);
        CHECKS.due("done()", late.done(), 4);
        CHECKS.due("worked(1, 0)", late.worked(1, 0), 0);
    }

    private static void aClashIsTriedAnew() {
        AspectWalk walk = clashInTheMiddle();
        CHECKS.clashed(walk, 4, 0, 8, 1, 0, 8, 0, 9);
        CHECKS.clashed(walk, 3, 0, 8, 1, 0, 8, 0, 9);
        walk.change(1, 100, 0);
        CHECKS.given(walk, 4, 0, 8, 12 + 11 + 8 + 108 + 10);
        CHECKS.due("maker(1, 1)", walk.maker(1, 1), 0);
        CHECKS.due("worked(0, 0)", walk.worked(0, 0), 1);
        CHECKS.due("worked(1, 0)", walk.worked(1, 0), 2);
        CHECKS.clashed(walk, 1, 0, 9, 1, 0, 9, 0, 8);
    }

    private static void passedMakesNothing() {
        AspectWalk walk = new AspectWalk();
        walk.target(1, 0);
        walk.aspect(0, 0, 1, 0, 2);
        walk.aspect(0, 0, 0, 0, 2);
        CHECKS.passed(walk, 0, 0, 0);
        CHECKS.due("maker(0, 2)", walk.maker(0, 2), -1);
        CHECKS.given(walk, 0, 1, 0, 1);
        CHECKS.passed(walk, 0, 0, 1);
        CHECKS.due("maker(0, 2)", walk.maker(0, 2), 1);
    }

    private static void aliasesShareOutputs() {
        AspectWalk walk = new AspectWalk();
        walk.target(1, 0);
        walk.target(1, 0);
        walk.alias(1);
        walk.target(5, 0);
        walk.add(3, 0, 2);
        walk.aspect(0, 1, 0, 0, 2);
        CHECKS.due("apply(2, 0, 1)", walk.apply(2, 0, 1), 1);
        CHECKS.clashed(walk, 2, 0, 3, 1, 0, 3, 0, 1);
        CHECKS.clashed(walk, 3, 0, 4, 1, 0, 4, 0, 1);
        CHECKS.given(walk, 3, 0, 1, 8);
        CHECKS.due("maker(2, 2)", walk.maker(2, 2), 0);
    }

    private static void clashTellsTheLatest() {
        AspectWalk walk = new AspectWalk();
        walk.target(1, 0);
        walk.target(1, 0);
        walk.aspect(0, 0, 0, 0, 2);
        walk.aspect(0, 0, 0, 0, -1);
        walk.aspect(0, 0, 1, 0, -1);
        walk.apply(0, 0, 1);
        CHECKS.clashed(walk, 0, 0, 2, 0, 0, 2, 0, 1);
        walk.apply(1, 0, 3);
        walk.apply(1, 1, 4);
        walk.apply(1, 2, 4);
        walk.apply(7, 0, 4);
        walk.change(0, 5, 0);
        walk.need(0, 1);
        CHECKS.dueClash("later", walk, 0, 0, 2, 0, 1);
        walk.apply(1, 0, 15);
        CHECKS.clashed(walk, 1, 0, 14, 1, 0, 14, 0, 15);
    }

    private static void clashOfWrongInputs() {
        AspectWalk walk = new AspectWalk();
        walk.target(1, 0);
        walk.aspect(0, 0, 0, 0, 2);
        walk.apply(0, 0, 1);
        CHECKS.dueClash("before", walk, -1, -1, -1, -1, -1);
        CHECKS.clashed(walk, 0, 0, 2, 0, 0, 2, 0, 1);
        for (int wrong : new int[] {Integer.MIN_VALUE, -1, 5, Integer.MAX_VALUE}) {
            CHECKS.due("clash(" + wrong + ")", walk.clash(wrong), -1);
        }
    }
}
