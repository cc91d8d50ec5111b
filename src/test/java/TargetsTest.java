/** Promises 1 to 6: a new object, target, alias, stands, add and change. */
public final class TargetsTest {
    private static final Checks CHECKS = new Checks("TargetsTest");
    private static final int[] WRONG = {Integer.MIN_VALUE, -2, -1, 3, 20, 32, Integer.MAX_VALUE};

    public static void main(String[] args) {
        newObjectIsEmpty();
        objectsAreApart();
        targetsAreNumbered();
        targetProvidersAreEightBits();
        targetValuesAreWhole();
        aliasesLeadOn();
        aliasesAreOfWhatThereIs();
        aliasesCountAsTargets();
        addRefuses();
        addFillsRowsOfFour();
        addTakesOneTwiceAndAliases();
        changeRefuses();
        changeSetsBoth();
        changeCountsEightBits();
        CHECKS.end();
    }

    private static void newObjectIsEmpty() {
        AspectWalk walk = new AspectWalk();
        CHECKS.due("new done()", walk.done(), 0);
        CHECKS.due("new stands(0)", walk.stands(0), -1);
        CHECKS.due("new alias(0)", walk.alias(0), -1);
        CHECKS.due("new add(1, 0, 0)", walk.add(1, 0, 0), false);
        CHECKS.due("new change(0, 0, 0)", walk.change(0, 0, 0), false);
        CHECKS.due("new need(0, 1)", walk.need(0, 1), -1);
        CHECKS.due("new need(0, 0)", walk.need(0, 0), -1);
        CHECKS.due("new apply(0, 0, 0)", walk.apply(0, 0, 0), -1);
        CHECKS.due("new state(0, 0, 0)", walk.state(0, 0, 0), -1);
        CHECKS.due("new result(0, 0, 0)", Checks.thrown(walk, 0, 0, 0), Checks.ILLEGAL_ARGUMENT);
        CHECKS.due("new worked(0, 0)", walk.worked(0, 0), 0);
        CHECKS.due("new maker(0, 0)", walk.maker(0, 0), -1);
        CHECKS.dueClash("new", walk, -1, -1, -1, -1, -1);
        CHECKS.due("new target", walk.target(0, 0), 0);
        CHECKS.due("new aspect", walk.aspect(0, 0, 0, 0, -1), 0);
    }

    private static void objectsAreApart() {
        AspectWalk one = new AspectWalk();
        AspectWalk other = new AspectWalk();
        one.target(4, 0);
        one.aspect(0, 0, 0, 0, 2);
        one.apply(0, 0, 0);
        CHECKS.due("the other's stands(0)", other.stands(0), -1);
        CHECKS.due("the other's done()", other.done(), 0);
        CHECKS.due("the other's target", other.target(9, 0), 0);
        CHECKS.due("the other's maker", other.maker(0, 2), -1);
    }

    private static void targetsAreNumbered() {
        AspectWalk walk = new AspectWalk();
        for (int i = 0; i < 20; i++) {
            CHECKS.due("target " + i, walk.target(i, i), i);
        }
        CHECKS.due("target 20", walk.target(0, 0), -1);
        CHECKS.due("target 20 again", walk.target(0, 0), -1);
        CHECKS.due("alias as the 21st", walk.alias(0), -1);
        CHECKS.due("stands(19)", walk.stands(19), 19);
        CHECKS.due("stands(20)", walk.stands(20), -1);
    }

    private static void targetProvidersAreEightBits() {
        AspectWalk walk = new AspectWalk();
        walk.target(0, 0x100);
        walk.target(0, -1);
        walk.target(0, 0x80);
        walk.aspect(0, 0, 0x01, 0, -1);
        walk.aspect(0, 0, 0xff, 0, -1);
        walk.aspect(0, 0, 0x80, 0, -1);
        CHECKS.passed(walk, 0, 0, 0);
        CHECKS.given(walk, 1, 1, 0, 0);
        CHECKS.given(walk, 2, 2, 0, 0);
        CHECKS.passed(walk, 2, 1, 0);
    }

    private static void targetValuesAreWhole() {
        AspectWalk walk = new AspectWalk();
        walk.target(Long.MAX_VALUE, 0);
        walk.target(Long.MIN_VALUE, 0);
        walk.aspect(0, 0, 0, 0, -1);
        CHECKS.given(walk, 0, 0, 0, Long.MAX_VALUE);
        CHECKS.given(walk, 0, 0, 1, Long.MIN_VALUE);
        CHECKS.given(walk, 1, 0, 0, Long.MIN_VALUE);
    }

    private static void aliasesLeadOn() {
        AspectWalk walk = new AspectWalk();
        walk.target(1, 0);
        walk.target(2, 0);
        CHECKS.due("alias(1)", walk.alias(1), 2);
        CHECKS.due("alias(2)", walk.alias(2), 3);
        CHECKS.due("alias(3)", walk.alias(3), 4);
        CHECKS.due("alias(0)", walk.alias(0), 5);
        int[] ends = {0, 1, 1, 1, 1, 0};
        for (int i = 0; i < ends.length; i++) {
            CHECKS.due("stands(" + i + ")", walk.stands(i), ends[i]);
        }
        walk.aspect(0, 0, 0, 0, 3);
        CHECKS.given(walk, 4, 0, 5, 7);
        for (int i = 1; i < 5; i++) {
            CHECKS.due("state(" + i + ", 0, 5)", walk.state(i, 0, 5), 1);
            CHECKS.due("result(" + i + ", 0, 5)", walk.result(i, 0, 5), 7);
            CHECKS.due("worked(" + i + ", 0)", walk.worked(i, 0), 1);
            CHECKS.due("maker(" + i + ", 3)", walk.maker(i, 3), 0);
        }
        CHECKS.due("state(5, 0, 5)", walk.state(5, 0, 5), -1);
        CHECKS.due("done()", walk.done(), 1);
    }

    private static void aliasesAreOfWhatThereIs() {
        AspectWalk walk = new AspectWalk();
        walk.target(0, 0);
        walk.target(0, 0);
        walk.target(0, 0);
        for (int wrong : WRONG) {
            CHECKS.due("alias(" + wrong + ")", walk.alias(wrong), -1);
            CHECKS.due("stands(" + wrong + ")", walk.stands(wrong), -1);
        }
        CHECKS.due("the next number", walk.target(0, 0), 3);
    }

    private static void aliasesCountAsTargets() {
        AspectWalk walk = new AspectWalk();
        walk.target(0, 0);
        for (int i = 1; i < 20; i++) {
            CHECKS.due("alias " + i, walk.alias(i - 1), i);
        }
        CHECKS.due("alias 20", walk.alias(0), -1);
        CHECKS.due("target behind 20", walk.target(0, 0), -1);
        CHECKS.due("stands(19)", walk.stands(19), 0);
    }

    private static void addRefuses() {
        AspectWalk walk = new AspectWalk();
        walk.target(1, 0);
        walk.target(2, 0);
        walk.alias(1);
        for (int wrong : WRONG) {
            CHECKS.due("add(" + wrong + ", 0, 0)", walk.add(wrong, 0, 0), false);
            CHECKS.due("add(1, " + wrong + ", 0)", walk.add(1, wrong, 0), false);
            CHECKS.due("add(1, 0, " + wrong + ")", walk.add(1, 0, wrong), false);
        }
        CHECKS.due("add to an alias", walk.add(2, 0, 0), false);
        CHECKS.due("add itself", walk.add(1, 0, 1), false);
        CHECKS.due("add a greater one", walk.add(0, 0, 1), false);
        CHECKS.due("add its own alias", walk.add(1, 0, 2), false);
        walk.aspect(0, 7, 0, 0, -1);
        CHECKS.given(walk, 1, 0, 0, 2);
    }

    private static void addFillsRowsOfFour() {
        AspectWalk walk = new AspectWalk();
        walk.target(1, 0);
        walk.target(10, 0);
        walk.target(100, 0);
        walk.aspect(0, 7, 0, 0, -1);
        for (int attribute = 0; attribute < 3; attribute++) {
            for (int i = 0; i < 4; i++) {
                CHECKS.due("add(2, " + attribute + ", 0)", walk.add(2, attribute, 0), true);
            }
            CHECKS.given(walk, 2, 0, 0, 100 + 4 * (attribute + 1));
            CHECKS.due("a fifth", walk.add(2, attribute, 1), false);
            CHECKS.due("what is done behind it", walk.state(2, 0, 0), 1);
        }
        CHECKS.given(walk, 2, 0, 0, 112);
        CHECKS.due("another target's row", walk.add(1, 0, 0), true);
    }

    private static void addTakesOneTwiceAndAliases() {
        AspectWalk walk = new AspectWalk();
        walk.target(1, 0);
        walk.alias(0);
        walk.target(10, 0);
        CHECKS.due("add(2, 1, 0)", walk.add(2, 1, 0), true);
        CHECKS.due("add(2, 1, 0)", walk.add(2, 1, 0), true);
        CHECKS.due("add(2, 1, 1)", walk.add(2, 1, 1), true);
        walk.aspect(0, 2, 0, 0, -1);
        CHECKS.given(walk, 2, 0, 0, 13);
        CHECKS.due("worked(0, 0)", walk.worked(0, 0), 1);
        CHECKS.due("done()", walk.done(), 2);
    }

    private static void changeRefuses() {
        AspectWalk walk = new AspectWalk();
        walk.target(1, 0);
        walk.alias(0);
        walk.aspect(0, 0, 0, 0, -1);
        walk.apply(0, 0, 0);
        CHECKS.due("change an alias", walk.change(1, 5, 5), false);
        for (int wrong : new int[] {Integer.MIN_VALUE, -1, 2, 20, 32, Integer.MAX_VALUE}) {
            CHECKS.due("change(" + wrong + ", 5, 5)", walk.change(wrong, 5, 5), false);
        }
        CHECKS.due("state(0, 0, 0)", walk.state(0, 0, 0), 1);
        CHECKS.given(walk, 0, 0, 0, 1);
    }

    private static void changeSetsBoth() {
        AspectWalk walk = new AspectWalk();
        walk.target(1, 0);
        walk.aspect(0, 0, 2, 0, -1);
        CHECKS.passed(walk, 0, 0, 0);
        CHECKS.due("change(0, 1, 2)", walk.change(0, 1, 2), true);
        CHECKS.given(walk, 0, 0, 0, 1);
        CHECKS.due("change(0, 8, 2)", walk.change(0, 8, 2), true);
        CHECKS.given(walk, 0, 0, 0, 8);
        CHECKS.due("change(0, 9, 4)", walk.change(0, 9, 4), true);
        CHECKS.passed(walk, 0, 0, 0);
        CHECKS.due("change(0, 9, 6)", walk.change(0, 9, 6), true);
        CHECKS.given(walk, 0, 0, 0, 9);
        // Values that are alike in their lower half are other ones all the same.
        CHECKS.due("change(0, 9 + 2^32, 6)", walk.change(0, 9 + (1L << 32), 6), true);
        CHECKS.given(walk, 0, 0, 0, 9 + (1L << 32));
    }

    private static void changeCountsEightBits() {
        AspectWalk walk = new AspectWalk();
        walk.target(1, 0x83);
        walk.aspect(0, 0, 0x80, 0, -1);
        walk.apply(0, 0, 0);
        CHECKS.due("change(0, 1, 0x183)", walk.change(0, 1, 0x183), true);
        CHECKS.due("state(0, 0, 0)", walk.state(0, 0, 0), 1);
        CHECKS.due("change(0, 1, ~0x7c)", walk.change(0, 1, ~0x7c), true);
        CHECKS.due("state(0, 0, 0)", walk.state(0, 0, 0), 1);
        CHECKS.due("change(0, 1, 0x103)", walk.change(0, 1, 0x103), true);
        CHECKS.due("state(0, 0, 0)", walk.state(0, 0, 0), -1);
        CHECKS.passed(walk, 0, 0, 0);
    }
}
