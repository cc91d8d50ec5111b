/** All that can be asked of the first few targets, aspects, settings and names, as one text. */
final class Look {
    private static final int TARGETS = 4;
    private static final int ASPECTS = 2;
    private static final int SETTINGS = 2;
    private static final int NAMES = 2;
    private static final int CLASH_FACTS = 5;

    private Look() {
    }

    static String at(AspectWalk walk) {
        StringBuilder seen = new StringBuilder("done " + walk.done() + " clash");
        for (int what = 0; what < CLASH_FACTS; what++) {
            seen.append(' ').append(walk.clash(what));
        }
        for (int target = 0; target < TARGETS; target++) {
            seen.append("; target ").append(target).append(" stands ").append(walk.stands(target));
            for (int name = 0; name < NAMES; name++) {
                seen.append(" maker ").append(walk.maker(target, name));
            }
            for (int aspect = 0; aspect < ASPECTS; aspect++) {
                seen.append(", aspect ").append(aspect);
                lookAtPair(seen, walk, target, aspect);
            }
        }
        return seen.toString();
    }

    private static void lookAtPair(StringBuilder seen, AspectWalk walk, int target, int aspect) {
        seen.append(" worked ").append(walk.worked(target, aspect));
        for (int setting = 0; setting < SETTINGS; setting++) {
            seen.append(" state ").append(walk.state(target, aspect, setting));
            if (Checks.thrown(walk, target, aspect, setting) == 0) {
                seen.append(" result ").append(walk.result(target, aspect, setting));
            }
        }
    }
}
