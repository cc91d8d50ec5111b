import java.util.Random;

/** Runs of up to 512 calls, drawn from fixed seeds, each answer held against the plain model. */
public final class AgainstModelTest {
    private static final int RUNS = 3000;
    private static final int CALLS = 512;
    private static final int MOST_CALLS_A_STEP = 9;
    private static final int[] FAR = {Integer.MIN_VALUE, -2, -1, 4, 8, 10, 16, 20, 32, 512,
        Integer.MAX_VALUE};

    private final Checks checks;
    private final Random random;
    private final AspectWalk walk = new AspectWalk();
    private final PlainModel model = new PlainModel();
    // Runs differ in how many names, wants and settings there are, else most would only clash.
    private final int names;
    private final int settings;
    private final int wantBits;
    private final int targets;
    private final int near;

    private AgainstModelTest(Checks checks, long seed) {
        this.checks = checks;
        random = new Random(seed);
        names = random.nextInt(11);
        settings = 1 + random.nextInt(random.nextBoolean() ? 3 : 16);
        wantBits = random.nextInt(4);
        targets = 3 + random.nextInt(18);
        near = 1 + random.nextInt(20);
    }

    public static void main(String[] args) {
        Checks checks = new Checks("AgainstModelTest");
        for (int seed = 0; seed < RUNS; seed++) {
            new AgainstModelTest(checks, seed).run(seed);
        }
        checks.end();
    }

    private void run(int seed) {
        int before = checks.asked();
        for (int call = 0; call <= CALLS - MOST_CALLS_A_STEP; call = checks.asked() - before) {
            step("run " + seed + ", call " + call + ", ");
        }
    }

    private void step(String when) {
        int drawn = random.nextInt(100);
        if (drawn < 8) {
            newOne(when);
        } else if (drawn < 24) {
            row(when);
        } else if (drawn < 30) {
            changed(when);
        } else if (drawn < 36) {
            needed(when);
        } else if (drawn < 60) {
            applied(when);
        } else {
            looked(when, random.nextInt(6));
        }
    }

    private void newOne(String when) {
        int drawn = random.nextInt(4);
        if (drawn == 0) {
            int of = target();
            checks.due(when + "alias(" + of + ")", walk.alias(of), model.alias(of));
        } else if (drawn == 1) {
            int kind = random.nextInt(40) == 0 ? far() : random.nextInt(4);
            int along = random.nextInt();
            int wants = sparse() | random.nextInt() << 8;
            int gives = random.nextInt();
            int name = random.nextInt(40) == 0 ? far() : random.nextInt(names + 1) - 1;
            checks.due(when + "aspect", walk.aspect(kind, along, wants, gives, name),
                    model.aspect(kind, along, wants, gives, name));
        } else {
            long value = value();
            int providers = random.nextInt();
            checks.due(when + "target", walk.target(value, providers),
                    model.target(value, providers));
        }
    }

    private void row(String when) {
        int target = target();
        int other = random.nextInt(10) == 0 ? target() : target - 1 - random.nextInt(near);
        int attribute = random.nextInt(20) == 0 ? far() : random.nextInt(3);
        checks.due(when + "add(" + target + ", " + attribute + ", " + other + ")",
                walk.add(target, attribute, other), model.add(target, attribute, other));
    }

    private void changed(String when) {
        int target = target();
        long value = value();
        int providers = random.nextInt();
        checks.due(when + "change(" + target + ", " + value + ", " + providers + ")",
                walk.change(target, value, providers), model.change(target, value, providers));
        if (random.nextBoolean()) {
            checks.due(when + "change again", walk.change(target, value, providers ^ 1024),
                    model.change(target, value, providers ^ 1024));
        }
    }

    private void needed(String when) {
        int aspect = aspect();
        int other = aspect();
        checks.due(when + "need(" + aspect + ", " + other + ")", walk.need(aspect, other),
                model.need(aspect, other));
    }

    private void applied(String when) {
        int target = target();
        int aspect = aspect();
        int setting = setting();
        String place = "(" + target + ", " + aspect + ", " + setting + ")";
        int told = walk.apply(target, aspect, setting);
        checks.due(when + "apply" + place, told, model.apply(target, aspect, setting));
        checks.due(when + "result" + place, resultOfWalk(target, aspect, setting),
                resultOfModel(target, aspect, setting));
        boolean asksClash = told == -2 || random.nextInt(20) == 0;
        for (int what = -1; asksClash && what < 6; what++) {
            checks.due(when + "clash(" + what + ")", walk.clash(what), model.clash(what));
        }
    }

    private void looked(String when, int which) {
        int target = target();
        int aspect = aspect();
        int setting = setting();
        String place = "(" + target + ", " + aspect + ", " + setting + ")";
        if (which == 0) {
            checks.due(when + "state" + place, walk.state(target, aspect, setting),
                    model.state(target, aspect, setting));
        } else if (which == 1) {
            checks.due(when + "result" + place, resultOfWalk(target, aspect, setting),
                    resultOfModel(target, aspect, setting));
        } else if (which == 2) {
            checks.due(when + "worked" + place, walk.worked(target, aspect),
                    model.worked(target, aspect));
        } else if (which == 3) {
            checks.due(when + "done()", walk.done(), model.done());
        } else if (which == 4) {
            int name = random.nextInt(12) - 1;
            checks.due(when + "maker(" + target + ", " + name + ")", walk.maker(target, name),
                    model.maker(target, name));
        } else {
            checks.due(when + "stands(" + target + ")", walk.stands(target), model.stands(target));
        }
    }

    private String resultOfWalk(int target, int aspect, int setting) {
        try {
            return Long.toString(walk.result(target, aspect, setting));
        } catch (IllegalArgumentException e) {
            return "IllegalArgumentException";
        } catch (IllegalStateException e) {
            return "IllegalStateException";
        }
    }

    private String resultOfModel(int target, int aspect, int setting) {
        try {
            return Long.toString(model.result(target, aspect, setting));
        } catch (IllegalArgumentException e) {
            return "IllegalArgumentException";
        } catch (IllegalStateException e) {
            return "IllegalStateException";
        }
    }

    private int target() {
        return random.nextInt(60) == 0 ? far() : random.nextInt(targets);
    }

    private int aspect() {
        return random.nextInt(60) == 0 ? far() : random.nextInt(8);
    }

    private int setting() {
        return random.nextInt(60) == 0 ? far() : random.nextInt(settings);
    }

    private int far() {
        return FAR[random.nextInt(FAR.length)];
    }

    private int sparse() {
        int bits = 0;
        for (int i = 0; i < wantBits; i++) {
            bits |= random.nextInt(3) == 0 ? 1 << random.nextInt(8) : 0;
        }
        return bits;
    }

    private long value() {
        return random.nextInt(4) == 0 ? random.nextLong() : random.nextInt(200) - 100;
    }
}
