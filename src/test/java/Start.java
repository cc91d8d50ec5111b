/** Objects for the tests to begin with, and numbers that are too small or too large. */
final class Start {
    private Start() {
    }

    /** Targets of value 1 without providers and rows. */
    static AspectWalk targets(int count) {
        AspectWalk walk = new AspectWalk();
        for (int target = 0; target < count; target++) {
            walk.target(1, 0);
        }
        return walk;
    }

    /** Targets of value 1, each with the one before it in its row 0. */
    static AspectWalk chain(int count) {
        AspectWalk walk = targets(count);
        for (int target = 1; target < count; target++) {
            walk.add(target, 0, target - 1);
        }
        return walk;
    }

    /** Aspects that only add value and setting, without a name. */
    static AspectWalk aspects(int count) {
        AspectWalk walk = new AspectWalk();
        for (int aspect = 0; aspect < count; aspect++) {
            walk.aspect(0, 0, 0, 0, -1);
        }
        return walk;
    }

    /** As many targets and aspects as there can be, all of them plain. */
    static AspectWalk full() {
        AspectWalk walk = targets(20);
        for (int aspect = 0; aspect < 8; aspect++) {
            walk.aspect(0, 0, 0, 0, -1);
        }
        return walk;
    }

    /** Target 3 of value 8 has 1, 2 and 4 in its three rows. */
    static AspectWalk fan() {
        AspectWalk walk = new AspectWalk();
        for (int value = 1; value <= 8; value *= 2) {
            walk.target(value, 0);
        }
        for (int attribute = 0; attribute < 3; attribute++) {
            walk.add(3, attribute, attribute);
        }
        return walk;
    }

    /**
     * Something of each kind: targets 0, 1 and 3, which has 0 and 1 in its row 0; 2 is an alias of
     * 0. Aspect 0 is done with setting 0, aspect 1 needs it and was passed, a clash is told.
     */
    static AspectWalk busy() {
        AspectWalk walk = new AspectWalk();
        walk.target(1, 0);
        walk.target(10, 0);
        walk.alias(0);
        walk.target(100, 0);
        walk.add(3, 0, 0);
        walk.add(3, 0, 1);
        walk.aspect(0, 7, 0, 0, 0);
        walk.aspect(0, 0, 1, 0, -1);
        walk.need(1, 0);
        walk.apply(3, 0, 0);
        walk.apply(3, 1, 0);
        walk.apply(3, 0, 1);
        return walk;
    }

    /** Numbers beside a range: the nearest, the farthest, and such as share their lowest bits. */
    static int[] outside(int least, int greatest) {
        return new int[] {Integer.MIN_VALUE, Integer.MIN_VALUE + least, least - 256, least - 2,
            least - 1, greatest + 1, greatest + 2, greatest + 32, least + 256, 1 << 16,
            Integer.MAX_VALUE};
    }
}
