/** Counts and prints the answers that are not the ones that are due. */
final class Checks {
    static final long ILLEGAL_ARGUMENT = 1;
    static final long ILLEGAL_STATE = 2;

    private final String title;
    private String about = "";
    private int asked;
    private int wrong;

    Checks(String title) {
        this.title = title;
    }

    /** What the answers from here on are about: it is told with each that is wrong. */
    void about(String words) {
        about = ", " + words;
    }

    void due(String call, long got, long want) {
        due(call, Long.toString(got), Long.toString(want));
    }

    void due(String call, boolean got, boolean want) {
        due(call, Boolean.toString(got), Boolean.toString(want));
    }

    void due(String call, String got, String want) {
        asked++;
        if (!got.equals(want)) {
            wrong++;
            String place = title + about + ": " + call;
            System.out.println(place + " answered " + got + ", due is " + want);
        }
    }

    /** 0 if result answers, else which exception it throws. */
    static long thrown(AspectWalk walk, int target, int aspect, int setting) {
        try {
            walk.result(target, aspect, setting);
            return 0;
        } catch (IllegalArgumentException e) {
            return ILLEGAL_ARGUMENT;
        } catch (IllegalStateException e) {
            return ILLEGAL_STATE;
        }
    }

    /** Does an aspect and looks at what it gives. */
    void given(AspectWalk walk, int target, int aspect, int setting, long want) {
        String place = place(target, aspect, setting);
        due("apply" + place, walk.apply(target, aspect, setting), 1);
        due("state" + place, walk.state(target, aspect, setting), 1);
        long thrown = thrown(walk, target, aspect, setting);
        due("exception of result" + place, thrown, 0);
        if (thrown == 0) {
            due("result" + place, walk.result(target, aspect, setting), want);
        }
    }

    void passed(AspectWalk walk, int target, int aspect, int setting) {
        String place = place(target, aspect, setting);
        due("apply" + place, walk.apply(target, aspect, setting), 0);
        due("state" + place, walk.state(target, aspect, setting), 0);
        due("exception of result" + place, thrown(walk, target, aspect, setting), ILLEGAL_STATE);
    }

    /** Does an aspect that clashes; want is target, aspect, setting, maker and its setting. */
    void clashed(AspectWalk walk, int target, int aspect, int setting, int... want) {
        String call = "apply" + place(target, aspect, setting);
        due(call, walk.apply(target, aspect, setting), -2);
        dueClash("behind " + call, walk, want);
    }

    void dueClash(String when, AspectWalk walk, int... want) {
        for (int what = 0; what < want.length; what++) {
            due(when + " clash(" + what + ")", walk.clash(what), want[what]);
        }
    }

    /** What the targets from 0 on answer about an aspect and a setting. */
    void dueStates(String when, AspectWalk walk, int aspect, int setting, int... want) {
        for (int target = 0; target < want.length; target++) {
            due(when + " state" + place(target, aspect, setting),
                    walk.state(target, aspect, setting), want[target]);
        }
    }

    /** What the targets from 0 on answer about the maker of a name. */
    void dueMakers(String when, AspectWalk walk, int name, int... want) {
        for (int target = 0; target < want.length; target++) {
            due(when + " maker(" + target + ", " + name + ")", walk.maker(target, name),
                    want[target]);
        }
    }

    /** What can be asked is as it was at an earlier look. */
    void unchanged(String when, AspectWalk walk, String before) {
        due(when + " a look at all", Look.at(walk), before);
    }

    private static String place(int target, int aspect, int setting) {
        return "(" + target + ", " + aspect + ", " + setting + ")";
    }

    void fault(RuntimeException thrown) {
        due("the test", thrown.toString(), "no exception");
    }

    int asked() {
        return asked;
    }

    void end() {
        System.out.println(title + ": " + asked + " answers, " + wrong + " wrong");
        if (wrong != 0 || asked == 0) {
            System.exit(1);
        }
    }
}
