/** Promises 7 and 8: aspect and need. */
public final class AspectsTest {
    private static final Checks CHECKS = new Checks("AspectsTest");

    public static void main(String[] args) {
        aspectsAreNumbered();
        aspectRefuses();
        aspectBitsThatCount();
        needRefuses();
        needHasRoomForThree();
        needTellsRings();
        needRefusesBeforeItTellsRings();
        needByWayOfOthersIsNoNeed();
        CHECKS.end();
    }

    private static AspectWalk withAspects(int count) {
        AspectWalk walk = new AspectWalk();
        for (int i = 0; i < count; i++) {
            walk.aspect(0, 0, 0, 0, -1);
        }
        return walk;
    }

    private static void aspectsAreNumbered() {
        AspectWalk walk = new AspectWalk();
        for (int i = 0; i < 8; i++) {
            CHECKS.due("aspect " + i, walk.aspect(i % 4, i, i, i, i), i);
        }
        CHECKS.due("aspect 8", walk.aspect(0, 0, 0, 0, -1), -1);
    }

    private static void aspectRefuses() {
        AspectWalk walk = new AspectWalk();
        for (int wrong : new int[] {Integer.MIN_VALUE, -1, 4, Integer.MAX_VALUE}) {
            CHECKS.due("kind " + wrong, walk.aspect(wrong, 0, 0, 0, 0), -1);
        }
        for (int wrong : new int[] {Integer.MIN_VALUE, -2, 10, Integer.MAX_VALUE}) {
            CHECKS.due("name " + wrong, walk.aspect(0, 0, 0, 0, wrong), -1);
        }
        CHECKS.due("kind 0, name -1", walk.aspect(0, 0, 0, 0, -1), 0);
        CHECKS.due("kind 3, name 9", walk.aspect(3, 0, 0, 0, 9), 1);
        CHECKS.due("kind 1, name 0", walk.aspect(1, 0, 0, 0, 0), 2);
        CHECKS.due("kind 2, name 5", walk.aspect(2, 0, 0, 0, 5), 3);
    }

    private static void aspectBitsThatCount() {
        AspectWalk walk = new AspectWalk();
        walk.target(1, 0);
        walk.target(10, 0);
        walk.add(1, 0, 0);
        walk.add(1, 1, 0);
        walk.add(1, 1, 0);
        walk.add(1, 2, 0);
        walk.add(1, 2, 0);
        walk.add(1, 2, 0);
        walk.aspect(0, -1, 0x100, 0, -1);
        walk.aspect(0, 8, ~0xff, 0, -1);
        walk.aspect(0, 0x14, 0, 0x1ff, -1);
        walk.aspect(0, 1, 0, 0x100, -1);
        walk.aspect(0, 2, 0xff, 0, -1);
        CHECKS.given(walk, 1, 0, 0, 16);
        CHECKS.given(walk, 1, 1, 0, 10);
        CHECKS.given(walk, 1, 2, 0, 13);
        CHECKS.given(walk, 1, 3, 0, 11);
        walk.need(4, 3);
        CHECKS.passed(walk, 1, 4, 0);
        walk.need(4, 2);
        CHECKS.given(walk, 1, 4, 0, 10 + 2 * (1 + 1 + 1) + 11 + 13);
    }

    private static void needRefuses() {
        AspectWalk walk = withAspects(3);
        for (int wrong : new int[] {Integer.MIN_VALUE, -1, 3, 8, 32, Integer.MAX_VALUE}) {
            CHECKS.due("need(" + wrong + ", 0)", walk.need(wrong, 0), -1);
            CHECKS.due("need(0, " + wrong + ")", walk.need(0, wrong), -1);
            CHECKS.due("need(" + wrong + ", same)", walk.need(wrong, wrong), -1);
        }
        CHECKS.due("need(0, 1)", walk.need(0, 1), 1);
        CHECKS.due("need(0, 1) again", walk.need(0, 1), -1);
        CHECKS.due("need(0, 2)", walk.need(0, 2), 1);
        CHECKS.due("need(0, 1) a third time", walk.need(0, 1), -1);
        CHECKS.due("need(0, 2) again", walk.need(0, 2), -1);
    }

    private static void needHasRoomForThree() {
        AspectWalk walk = withAspects(8);
        CHECKS.due("need(2, 7)", walk.need(2, 7), 1);
        CHECKS.due("need(2, 3)", walk.need(2, 3), 1);
        CHECKS.due("need(2, 5)", walk.need(2, 5), 1);
        CHECKS.due("need(2, 4)", walk.need(2, 4), -1);
        CHECKS.due("need(3, 4)", walk.need(3, 4), 1);
        CHECKS.due("need(1, 2)", walk.need(1, 2), 1);
    }

    private static void needTellsRings() {
        AspectWalk walk = withAspects(8);
        CHECKS.due("need(0, 0)", walk.need(0, 0), -2);
        CHECKS.due("need(5, 5)", walk.need(5, 5), -2);
        for (int i = 0; i < 7; i++) {
            CHECKS.due("need(" + i + ", next)", walk.need(i, i + 1), 1);
        }
        for (int i = 1; i < 8; i++) {
            CHECKS.due("need(" + i + ", 0)", walk.need(i, 0), -2);
            CHECKS.due("need(7, " + i + ")", walk.need(7, i), -2);
        }
        // A ring that was told is no need.
        CHECKS.due("need(0, 7)", walk.need(0, 7), 1);
        joinedChainsHaveNoRing();
    }

    private static void joinedChainsHaveNoRing() {
        AspectWalk walk = withAspects(6);
        walk.need(4, 5);
        walk.need(0, 1);
        walk.need(2, 3);
        walk.need(1, 2);
        walk.need(3, 4);
        CHECKS.due("need(5, 0)", walk.need(5, 0), -2);
        CHECKS.due("need(4, 1)", walk.need(4, 1), -2);
        CHECKS.due("need(1, 5)", walk.need(1, 5), 1);
    }

    private static void needRefusesBeforeItTellsRings() {
        AspectWalk walk = withAspects(6);
        walk.need(1, 0);
        walk.need(0, 2);
        walk.need(0, 3);
        CHECKS.due("a ring with room", walk.need(0, 1), -2);
        walk.need(0, 4);
        CHECKS.due("a ring without room", walk.need(0, 1), -1);
        CHECKS.due("itself without room", walk.need(0, 0), -1);
    }

    private static void needByWayOfOthersIsNoNeed() {
        AspectWalk walk = withAspects(3);
        walk.need(0, 1);
        walk.need(1, 2);
        CHECKS.due("need(0, 2)", walk.need(0, 2), 1);
    }
}
