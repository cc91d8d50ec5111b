/** Promises 9, 11, 12 and 13 where nothing clashes or changes: apply, state, result, worked. */
public final class ApplyTest {
    private static final Checks CHECKS = new Checks("ApplyTest");

    public static void main(String[] args) {
        wrongInputs();
        kindSum();
        kindGreatest();
        kindMixed();
        kindCounting();
        partsComeFromBelowThenFromNeeds();
        rowsGoByAttributesThenAsTheyLie();
        onlyAttributesThatItGoesAlong();
        passedPartsAreNone();
        passedGoesNoFurther();
        providersOfNeeds();
        providersOfPassedNeeds();
        providersOfNeedsOfNeeds();
        settingsAreApart();
        doneOnce();
        arithmeticWraps();
        deepestWalk();
        CHECKS.end();
    }

    private static void wrongInputs() {
        AspectWalk walk = new AspectWalk();
        walk.target(1, 0);
        walk.aspect(0, 0, 0, 0, 0);
        int[] wrongNumbers = {Integer.MIN_VALUE, -1, 1, 8, 20, 32, Integer.MAX_VALUE};
        for (int wrong : wrongNumbers) {
            nothingSuch(walk, wrong, 0, 0);
            nothingSuch(walk, 0, wrong, 0);
            CHECKS.due("worked(" + wrong + ", 0)", walk.worked(wrong, 0), 0);
            CHECKS.due("worked(0, " + wrong + ")", walk.worked(0, wrong), 0);
            CHECKS.due("maker(" + wrong + ", 0)", walk.maker(wrong, 0), -1);
        }
        for (int wrong : new int[] {Integer.MIN_VALUE, -1, 16, 32, Integer.MAX_VALUE}) {
            nothingSuch(walk, 0, 0, wrong);
        }
        for (int wrong : new int[] {Integer.MIN_VALUE, -1, 10, Integer.MAX_VALUE}) {
            CHECKS.due("maker(0, " + wrong + ")", walk.maker(0, wrong), -1);
        }
        CHECKS.due("done()", walk.done(), 0);
        CHECKS.due("not done", Checks.thrown(walk, 0, 0, 15), Checks.ILLEGAL_STATE);
        CHECKS.due("state(0, 0, 15)", walk.state(0, 0, 15), -1);
        CHECKS.given(walk, 0, 0, 15, 16);
        nothingSuch(walk, 0, 0, -17);
        nothingSuch(walk, 0, 0, 47);
    }

    private static void nothingSuch(AspectWalk walk, int target, int aspect, int setting) {
        String place = "(" + target + ", " + aspect + ", " + setting + ")";
        CHECKS.due("apply" + place, walk.apply(target, aspect, setting), -1);
        CHECKS.due("state" + place, walk.state(target, aspect, setting), -1);
        CHECKS.due("exception of result" + place, Checks.thrown(walk, target, aspect, setting),
                Checks.ILLEGAL_ARGUMENT);
    }

    /** 2 has 0 and 1 in its row 0; aspect 1 needs aspect 0, which goes nowhere. */
    private static AspectWalk small(int kind) {
        AspectWalk walk = new AspectWalk();
        walk.target(3, 0);
        walk.target(-50, 0);
        walk.target(7, 0);
        walk.add(2, 0, 0);
        walk.add(2, 0, 1);
        walk.aspect(0, 0, 0, 0, -1);
        walk.aspect(kind, 1, 0, 0, -1);
        walk.need(1, 0);
        return walk;
    }

    private static void kindSum() {
        AspectWalk walk = small(0);
        CHECKS.given(walk, 0, 1, 2, 5 + 5);
        CHECKS.given(walk, 2, 1, 2, 9 + 10 - 96 + 9);
    }

    private static void kindGreatest() {
        AspectWalk walk = small(1);
        CHECKS.given(walk, 1, 1, 2, -48);
        CHECKS.given(walk, 2, 1, 2, 9);
        walk.change(0, 11, 0);
        CHECKS.given(walk, 2, 1, 2, 13);
        AspectWalk signed = new AspectWalk();
        signed.target(-1, 0);
        signed.target(1, 0);
        signed.add(1, 2, 0);
        signed.aspect(1, 4, 0, 0, -1);
        CHECKS.given(signed, 1, 0, 0, 1);
        signed.change(1, Long.MIN_VALUE, 0);
        CHECKS.given(signed, 1, 0, 0, -1);
        greatestOfNeeds();
    }

    private static void greatestOfNeeds() {
        AspectWalk walk = new AspectWalk();
        walk.target(5, 0);
        walk.target(6, 0);
        walk.add(1, 0, 0);
        walk.aspect(0, 1, 0, 0, -1);
        walk.aspect(1, 1, 0, 0, -1);
        walk.need(1, 0);
        CHECKS.given(walk, 1, 1, 0, 11);
    }

    private static void kindMixed() {
        AspectWalk walk = small(2);
        CHECKS.given(walk, 0, 1, 2, 31 * 5 + 5);
        CHECKS.given(walk, 1, 1, 2, 31 * -48 - 48);
        long expected = 9;
        expected = 31 * expected + 160;
        expected = 31 * expected - 32 * 48;
        expected = 31 * expected + 9;
        CHECKS.given(walk, 2, 1, 2, expected);
    }

    private static void kindCounting() {
        AspectWalk walk = small(3);
        CHECKS.given(walk, 0, 1, 2, 1);
        CHECKS.given(walk, 2, 1, 2, 3);
        CHECKS.due("the need is done", walk.state(2, 0, 2), 1);
    }

    private static void partsComeFromBelowThenFromNeeds() {
        AspectWalk walk = new AspectWalk();
        walk.target(2, 0);
        walk.target(3, 0);
        walk.add(1, 0, 0);
        walk.aspect(0, 0, 0, 0, -1);
        walk.aspect(3, 0, 0, 0, -1);
        walk.aspect(2, 1, 0, 0, -1);
        walk.need(2, 1);
        walk.need(2, 0);
        long below = 31 * (31 * 2 + 1) + 2;
        CHECKS.given(walk, 0, 2, 0, below);
        CHECKS.given(walk, 1, 2, 0, 31 * (31 * (31 * 3 + below) + 1) + 3);
    }

    private static void rowsGoByAttributesThenAsTheyLie() {
        AspectWalk walk = new AspectWalk();
        walk.target(1, 0);
        walk.target(2, 0);
        walk.target(3, 0);
        walk.target(4, 0);
        walk.target(0, 0);
        walk.add(4, 2, 3);
        walk.add(4, 0, 2);
        walk.add(4, 1, 0);
        walk.add(4, 0, 1);
        walk.add(4, 0, 2);
        walk.aspect(2, 7, 0, 0, -1);
        long expected = 0;
        for (int part : new int[] {3, 2, 3, 1, 4}) {
            expected = 31 * expected + part;
        }
        CHECKS.given(walk, 4, 0, 0, expected);
    }

    private static void onlyAttributesThatItGoesAlong() {
        AspectWalk walk = new AspectWalk();
        walk.target(1, 0);
        walk.target(2, 0);
        walk.target(4, 0);
        walk.target(8, 0);
        walk.add(3, 0, 0);
        walk.add(3, 1, 1);
        walk.add(3, 2, 2);
        for (int along = 0; along < 8; along++) {
            walk.aspect(0, along, 0, 0, -1);
            CHECKS.given(walk, 3, along, 0, 8 + along);
            for (int below = 0; below < 3; below++) {
                int want = (along >> below & 1) == 1 ? 1 : -1;
                CHECKS.due("state(" + below + ")", walk.state(below, along, 0), want);
            }
        }
    }

    private static void passedPartsAreNone() {
        AspectWalk walk = new AspectWalk();
        walk.target(100, 0);
        walk.target(3, 1);
        walk.target(5, 1);
        walk.add(2, 0, 0);
        walk.add(2, 0, 1);
        for (int kind = 0; kind < 4; kind++) {
            walk.aspect(kind, 1, 1, 0, -1);
        }
        long[] given = {8, 5, 31 * 5 + 3, 2};
        for (int kind = 0; kind < 4; kind++) {
            CHECKS.given(walk, 2, kind, 0, given[kind]);
            CHECKS.due("state(0, " + kind + ", 0)", walk.state(0, kind, 0), 0);
            CHECKS.due("worked(0, " + kind + ")", walk.worked(0, kind), 0);
        }
        CHECKS.due("done()", walk.done(), 8);
        walk.aspect(0, 0, 2, 0, -1);
        walk.aspect(2, 0, 0, 0, -1);
        walk.need(5, 4);
        CHECKS.given(walk, 2, 5, 0, 5);
        CHECKS.due("the passed need", walk.state(2, 4, 0), 0);
    }

    private static void passedGoesNoFurther() {
        AspectWalk walk = new AspectWalk();
        walk.target(1, 1);
        walk.target(2, 0);
        walk.add(1, 0, 0);
        walk.aspect(0, 1, 1, 0, 4);
        walk.aspect(0, 1, 0, 0, -1);
        walk.need(0, 1);
        CHECKS.passed(walk, 1, 0, 0);
        CHECKS.due("below", walk.state(0, 0, 0), -1);
        CHECKS.due("what it needs", walk.state(1, 1, 0), 1);
        CHECKS.due("what it needs, below", walk.state(0, 1, 0), 1);
        CHECKS.due("its output", walk.maker(1, 4), -1);
        CHECKS.due("worked(1, 0)", walk.worked(1, 0), 0);
        CHECKS.due("done()", walk.done(), 2);
        CHECKS.passed(walk, 1, 0, 9);
        CHECKS.due("the other setting's state", walk.state(1, 0, 0), 0);
        CHECKS.passed(walk, 1, 0, 0);
        CHECKS.due("worked(1, 1)", walk.worked(1, 1), 2);
    }

    private static void providersOfNeeds() {
        AspectWalk walk = new AspectWalk();
        walk.target(1, 1);
        walk.target(2, 0);
        walk.aspect(0, 0, 0, 2, -1);
        walk.aspect(0, 0, 0, 4, -1);
        walk.aspect(0, 0, 7, 0, -1);
        CHECKS.passed(walk, 0, 2, 0);
        walk.need(2, 0);
        CHECKS.passed(walk, 0, 2, 0);
        walk.need(2, 1);
        CHECKS.given(walk, 0, 2, 0, 3);
        CHECKS.passed(walk, 1, 2, 0);
        // What it gives itself is not what it wants.
        walk.aspect(0, 0, 1, 1, -1);
        CHECKS.passed(walk, 1, 3, 0);
    }

    private static void providersOfPassedNeeds() {
        AspectWalk walk = new AspectWalk();
        walk.target(1, 0);
        walk.target(1, 8);
        walk.aspect(0, 0, 8, 2, -1);
        walk.aspect(0, 0, 2, 0, -1);
        walk.need(1, 0);
        CHECKS.passed(walk, 0, 1, 0);
        CHECKS.due("the need", walk.state(0, 0, 0), 0);
        CHECKS.given(walk, 1, 1, 0, 2);
    }

    private static void providersOfNeedsOfNeeds() {
        AspectWalk walk = new AspectWalk();
        walk.target(1, 0);
        walk.aspect(0, 0, 0, 2, -1);
        walk.aspect(0, 0, 0, 0, -1);
        walk.aspect(0, 0, 2, 0, -1);
        walk.need(1, 0);
        walk.need(2, 1);
        CHECKS.passed(walk, 0, 2, 0);
        walk.need(2, 0);
        CHECKS.given(walk, 0, 2, 0, 4);
    }

    private static void settingsAreApart() {
        AspectWalk walk = new AspectWalk();
        walk.target(10, 0);
        walk.target(20, 0);
        walk.add(1, 1, 0);
        walk.aspect(0, 2, 0, 0, -1);
        for (int setting = 0; setting < 16; setting++) {
            CHECKS.due("state before", walk.state(1, 0, setting), -1);
            CHECKS.given(walk, 1, 0, setting, 30 + 2 * setting);
        }
        for (int setting = 0; setting < 16; setting++) {
            CHECKS.due("result behind", walk.result(1, 0, setting), 30 + 2 * setting);
            CHECKS.due("result below", walk.result(0, 0, setting), 10 + setting);
        }
        CHECKS.due("worked(1, 0)", walk.worked(1, 0), 16);
        CHECKS.due("worked(0, 0)", walk.worked(0, 0), 16);
        CHECKS.due("done()", walk.done(), 32);
    }

    private static void doneOnce() {
        AspectWalk walk = small(0);
        CHECKS.due("apply(0, 1, 0)", walk.apply(0, 1, 0), 1);
        CHECKS.due("apply(2, 1, 0)", walk.apply(2, 1, 0), 1);
        CHECKS.due("apply(2, 1, 0) again", walk.apply(2, 1, 0), 1);
        for (int target = 0; target < 3; target++) {
            CHECKS.due("worked(" + target + ", 0)", walk.worked(target, 0), 1);
            CHECKS.due("worked(" + target + ", 1)", walk.worked(target, 1), 1);
        }
        CHECKS.due("done()", walk.done(), 6);
    }

    private static void arithmeticWraps() {
        AspectWalk walk = new AspectWalk();
        walk.target(Long.MAX_VALUE, 0);
        walk.target(Long.MAX_VALUE, 0);
        walk.add(1, 0, 0);
        walk.aspect(0, 1, 0, 0, -1);
        walk.aspect(1, 1, 0, 0, -1);
        walk.aspect(2, 1, 0, 0, -1);
        CHECKS.given(walk, 1, 0, 0, -2);
        CHECKS.given(walk, 1, 1, 0, Long.MAX_VALUE);
        CHECKS.given(walk, 1, 1, 1, Long.MIN_VALUE);
        CHECKS.given(walk, 1, 2, 0, 31 * Long.MAX_VALUE + Long.MAX_VALUE);
    }

    private static void deepestWalk() {
        AspectWalk walk = new AspectWalk();
        for (int target = 0; target < 20; target++) {
            walk.target(1, 0);
            for (int attribute = 0; attribute < 3; attribute++) {
                for (int i = 0; target > 0 && i < 4; i++) {
                    walk.add(target, attribute, target - 1);
                }
            }
        }
        for (int aspect = 0; aspect < 8; aspect++) {
            walk.aspect(3, 7, 0, 0, aspect);
            // The nearest first, so that the first way down goes through all aspects.
            for (int other = aspect - 1; other >= 0 && other >= aspect - 3; other--) {
                walk.need(aspect, other);
            }
        }
        long expected = 1;
        for (int target = 1; target < 20; target++) {
            expected = 1 + 12 * expected;
        }
        CHECKS.given(walk, 19, 7, 15, expected);
        CHECKS.due("done()", walk.done(), 160);
        CHECKS.due("worked(0, 0)", walk.worked(0, 0), 1);
    }
}
