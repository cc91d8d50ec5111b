import java.util.Arrays;

/**
 * Aspects that go along the attributes of targets: each done once for a target and a setting, and
 * done anew only where something has changed.
 */
public final class AspectWalk {
    public static final int NONE = -1;

    private static final int DONE = 1;
    private static final int PASSED = 0;
    private static final int CLASHED = -2;
    private static final int RING = -2;

    private static final int MOST_TARGETS = 20;
    private static final int ATTRIBUTES = 3;
    private static final int ROW_ROOM = 4;
    private static final int MOST_ASPECTS = 8;
    private static final int MOST_NEEDS = 3;
    private static final int SETTINGS = 16;
    private static final int NAMES = 10;
    private static final int CLASH_FACTS = 5;

    private static final int PROVIDER_BITS = 255;
    private static final int ATTRIBUTE_BITS = 7;

    private static final int KINDS = 4;
    private static final int KIND_GREATEST = 1;
    private static final int KIND_MIXED = 2;
    private static final int KIND_COUNTING = 3;

    // Each step of a doing goes to a lesser target or along a need, and neither has rings.
    private static final int DEEPEST = MOST_TARGETS + MOST_ASPECTS;

    private final Targets targets;
    private final Aspects aspects;
    private final Memory memory;
    private final int[] latestClash;

    public AspectWalk() {
        targets = new Targets();
        aspects = new Aspects();
        memory = new Memory();
        latestClash = new int[CLASH_FACTS];
        Arrays.fill(latestClash, NONE);
    }

    public int target(long value, int providers) {
        return targets.open(value, providers & PROVIDER_BITS);
    }

    public int alias(int of) {
        return targets.has(of) ? targets.openAlias(of) : NONE;
    }

    public int stands(int target) {
        return targets.has(target) ? targets.end(target) : NONE;
    }

    public boolean add(int target, int attribute, int other) {
        if (!targets.has(target) || !targets.has(other) || targets.isAlias(target)) {
            return false;
        }
        if (attribute < 0 || attribute >= ATTRIBUTES || other >= target) {
            return false;
        }
        if (!targets.append(target, attribute, targets.end(other))) {
            return false;
        }
        forgetFrom(target);
        return true;
    }

    public boolean change(int target, long value, int providers) {
        if (!targets.has(target) || targets.isAlias(target)) {
            return false;
        }
        if (targets.assign(target, value, providers & PROVIDER_BITS)) {
            forgetFrom(target);
        }
        return true;
    }

    public int aspect(int kind, int along, int wants, int gives, int name) {
        if (kind < 0 || kind >= KINDS || name < NONE || name >= NAMES) {
            return NONE;
        }
        return aspects.open(kind, along & ATTRIBUTE_BITS, wants & PROVIDER_BITS,
                gives & PROVIDER_BITS, name);
    }

    public int need(int aspect, int other) {
        if (!aspects.has(aspect) || !aspects.has(other)) {
            return NONE;
        }
        if (aspects.needsDirectly(aspect, other) || aspects.needCount(aspect) >= MOST_NEEDS) {
            return NONE;
        }
        if (aspects.leadsTo(other, aspect)) {
            return RING;
        }
        aspects.appendNeed(aspect, other);
        forgetAllOf(aspect);
        return 1;
    }

    public int apply(int target, int aspect, int setting) {
        if (!isAsked(target, aspect, setting)) {
            return NONE;
        }
        return doing(targets.end(target), aspect, setting, 0);
    }

    public int clash(int what) {
        return what >= 0 && what < CLASH_FACTS ? latestClash[what] : NONE;
    }

    public int state(int target, int aspect, int setting) {
        if (!isAsked(target, aspect, setting)) {
            return NONE;
        }
        return memory.known(targets.end(target), aspect, setting);
    }

    public long result(int target, int aspect, int setting)
            throws IllegalArgumentException, IllegalStateException {
        if (!isAsked(target, aspect, setting)) {
            throw new IllegalArgumentException("no such target, aspect or setting");
        }
        int end = targets.end(target);
        if (memory.known(end, aspect, setting) != DONE) {
            throw new IllegalStateException("it is not done");
        }
        return memory.resultOf(end, aspect, setting);
    }

    public int worked(int target, int aspect) {
        if (!targets.has(target) || !aspects.has(aspect)) {
            return 0;
        }
        return memory.timesDone(targets.end(target), aspect);
    }

    public int done() {
        return memory.doneCount();
    }

    public int maker(int target, int name) {
        if (!targets.has(target) || name < 0 || name >= NAMES) {
            return NONE;
        }
        return memory.makerOf(targets.end(target), name);
    }

    private boolean isAsked(int target, int aspect, int setting) {
        return targets.has(target) && aspects.has(aspect) && setting >= 0 && setting < SETTINGS;
    }

    /** DONE, PASSED or CLASHED; the target is no alias. */
    private int doing(int target, int aspect, int setting, int depth) {
        if (depth > DEEPEST) {
            return NONE;
        }
        int known = memory.known(target, aspect, setting);
        if (known != NONE) {
            return known;
        }
        int needed = doNeeds(target, aspect, setting, depth);
        if (needed < 0) {
            return needed;
        }
        if (lacksProvider(target, aspect, setting)) {
            memory.keepPassed(target, aspect, setting);
            return PASSED;
        }
        int below = doBelow(target, aspect, setting, depth);
        if (below < 0) {
            return below;
        }
        if (!makeOutput(target, aspect, setting)) {
            return CLASHED;
        }
        memory.keepDone(target, aspect, setting, joined(target, aspect, setting));
        return DONE;
    }

    /** Less than 0 if one of them ended all that wait for it. */
    private int doNeeds(int target, int aspect, int setting, int depth) {
        for (int i = 0; i < aspects.needCount(aspect); i++) {
            int told = doing(target, aspects.needAt(aspect, i), setting, depth + 1);
            if (told < 0) {
                return told;
            }
        }
        return DONE;
    }

    /** Less than 0 if one of them ended all that wait for it. */
    private int doBelow(int target, int aspect, int setting, int depth) {
        for (int attribute = 0; attribute < ATTRIBUTES; attribute++) {
            int length = lengthAlong(target, aspect, attribute);
            for (int i = 0; i < length; i++) {
                int told = doing(targets.rowAt(target, attribute, i), aspect, setting, depth + 1);
                if (told < 0) {
                    return told;
                }
            }
        }
        return DONE;
    }

    private int lengthAlong(int target, int aspect, int attribute) {
        return aspects.goesAlong(aspect, attribute) ? targets.rowLength(target, attribute) : 0;
    }

    private boolean lacksProvider(int target, int aspect, int setting) {
        int offered = targets.providersOf(target);
        for (int i = 0; i < aspects.needCount(aspect); i++) {
            int needed = aspects.needAt(aspect, i);
            if (memory.known(target, needed, setting) == DONE) {
                offered |= aspects.givesOf(needed);
            }
        }
        return (aspects.wantsOf(aspect) & ~offered) != 0;
    }

    /** False if another doing made the output: then that is what clash tells. */
    private boolean makeOutput(int target, int aspect, int setting) {
        int name = aspects.nameOf(aspect);
        if (name == NONE) {
            return true;
        }
        int maker = memory.makerOf(target, name);
        if (maker == NONE) {
            memory.keepMaker(target, name, aspect, setting);
            return true;
        }
        latestClash[0] = target;
        latestClash[1] = aspect;
        latestClash[2] = setting;
        latestClash[3] = maker;
        latestClash[4] = memory.makerSettingOf(target, name);
        return false;
    }

    private long joined(int target, int aspect, int setting) {
        int kind = aspects.kindOf(aspect);
        long start = kind == KIND_COUNTING ? 1 : targets.valueOf(target) + setting;
        long fromBelow = joinBelow(start, target, aspect, setting);
        return kind == KIND_COUNTING ? fromBelow : joinNeeds(fromBelow, target, aspect, setting);
    }

    private long joinBelow(long start, int target, int aspect, int setting) {
        int kind = aspects.kindOf(aspect);
        long sum = start;
        for (int attribute = 0; attribute < ATTRIBUTES; attribute++) {
            int length = lengthAlong(target, aspect, attribute);
            for (int i = 0; i < length; i++) {
                int part = targets.rowAt(target, attribute, i);
                sum = joinPart(kind, sum, part, aspect, setting);
            }
        }
        return sum;
    }

    private long joinNeeds(long start, int target, int aspect, int setting) {
        int kind = aspects.kindOf(aspect);
        long sum = start;
        for (int i = 0; i < aspects.needCount(aspect); i++) {
            sum = joinPart(kind, sum, target, aspects.needAt(aspect, i), setting);
        }
        return sum;
    }

    private long joinPart(int kind, long sum, int target, int aspect, int setting) {
        if (memory.known(target, aspect, setting) != DONE) {
            return sum;
        }
        long part = memory.resultOf(target, aspect, setting);
        switch (kind) {
            case KIND_GREATEST:
                return Math.max(sum, part);
            case KIND_MIXED:
                return 31 * sum + part;
            default:
                return sum + part;
        }
    }

    private void forgetFrom(int changed) {
        for (int target = 0; target < targets.count(); target++) {
            if (targets.leadsTo(target, changed)) {
                for (int aspect = 0; aspect < aspects.count(); aspect++) {
                    memory.forget(target, aspect, aspects.nameOf(aspect));
                }
            }
        }
    }

    private void forgetAllOf(int changed) {
        for (int aspect = 0; aspect < aspects.count(); aspect++) {
            if (aspects.leadsTo(aspect, changed)) {
                for (int target = 0; target < targets.count(); target++) {
                    memory.forget(target, aspect, aspects.nameOf(aspect));
                }
            }
        }
    }

    /** The targets and their rows. Rows hold ends, never aliases, since an alias never changes. */
    private static final class Targets {
        private final long[] values = new long[MOST_TARGETS];
        private final int[] providers = new int[MOST_TARGETS];
        private final int[] ends = new int[MOST_TARGETS];
        private final int[] rows = new int[MOST_TARGETS * ATTRIBUTES * ROW_ROOM];
        private final int[] rowLengths = new int[MOST_TARGETS * ATTRIBUTES];
        // Bits of the target itself and of all that it reaches by rows. Rows only grow, so these do.
        private final int[] reached = new int[MOST_TARGETS];
        private int opened;

        int count() {
            return opened;
        }

        boolean has(int number) {
            return number >= 0 && number < opened;
        }

        int open(long value, int offered) {
            if (opened >= MOST_TARGETS) {
                return NONE;
            }
            int number = opened;
            values[number] = value;
            providers[number] = offered;
            ends[number] = number;
            reached[number] = 1 << number;
            opened++;
            return number;
        }

        int openAlias(int of) {
            if (opened >= MOST_TARGETS) {
                return NONE;
            }
            int number = opened;
            ends[number] = ends[of];
            opened++;
            return number;
        }

        int end(int number) {
            return ends[number];
        }

        boolean isAlias(int number) {
            return ends[number] != number;
        }

        /** Whether something is another one now. */
        boolean assign(int number, long value, int offered) {
            boolean differs = values[number] != value || providers[number] != offered;
            values[number] = value;
            providers[number] = offered;
            return differs;
        }

        boolean append(int number, int attribute, int other) {
            int row = number * ATTRIBUTES + attribute;
            int length = rowLengths[row];
            if (length >= ROW_ROOM) {
                return false;
            }
            rows[row * ROW_ROOM + length] = other;
            rowLengths[row] = length + 1;
            for (int above = 0; above < opened; above++) {
                if (leadsTo(above, number)) {
                    reached[above] |= reached[other];
                }
            }
            return true;
        }

        boolean leadsTo(int number, int other) {
            return (reached[number] >> other & 1) != 0;
        }

        int rowLength(int number, int attribute) {
            return rowLengths[number * ATTRIBUTES + attribute];
        }

        int rowAt(int number, int attribute, int place) {
            return rows[(number * ATTRIBUTES + attribute) * ROW_ROOM + place];
        }

        long valueOf(int number) {
            return values[number];
        }

        int providersOf(int number) {
            return providers[number];
        }
    }

    /** The aspects and what they need. */
    private static final class Aspects {
        private final int[] kinds = new int[MOST_ASPECTS];
        private final int[] alongs = new int[MOST_ASPECTS];
        private final int[] wants = new int[MOST_ASPECTS];
        private final int[] gives = new int[MOST_ASPECTS];
        private final int[] names = new int[MOST_ASPECTS];
        private final int[] needs = new int[MOST_ASPECTS * MOST_NEEDS];
        private final int[] needCounts = new int[MOST_ASPECTS];
        // Bits of the aspect itself and of all that it needs, by way of others too.
        private final int[] reached = new int[MOST_ASPECTS];
        private int opened;

        int count() {
            return opened;
        }

        boolean has(int number) {
            return number >= 0 && number < opened;
        }

        int open(int kind, int along, int wanted, int given, int name) {
            if (opened >= MOST_ASPECTS) {
                return NONE;
            }
            int number = opened;
            kinds[number] = kind;
            alongs[number] = along;
            wants[number] = wanted;
            gives[number] = given;
            names[number] = name;
            reached[number] = 1 << number;
            opened++;
            return number;
        }

        boolean needsDirectly(int number, int other) {
            for (int i = 0; i < needCounts[number]; i++) {
                if (needAt(number, i) == other) {
                    return true;
                }
            }
            return false;
        }

        /** The caller has seen that there is room, and that no ring would be. */
        void appendNeed(int number, int other) {
            needs[number * MOST_NEEDS + needCounts[number]] = other;
            needCounts[number]++;
            for (int above = 0; above < opened; above++) {
                if (leadsTo(above, number)) {
                    reached[above] |= reached[other];
                }
            }
        }

        boolean leadsTo(int number, int other) {
            return (reached[number] >> other & 1) != 0;
        }

        int needCount(int number) {
            return needCounts[number];
        }

        int needAt(int number, int place) {
            return needs[number * MOST_NEEDS + place];
        }

        boolean goesAlong(int number, int attribute) {
            return (alongs[number] >> attribute & 1) != 0;
        }

        int kindOf(int number) {
            return kinds[number];
        }

        int wantsOf(int number) {
            return wants[number];
        }

        int givesOf(int number) {
            return gives[number];
        }

        int nameOf(int number) {
            return names[number];
        }
    }

    /** What is done, was passed and was made, by target, aspect and setting. */
    private static final class Memory {
        private static final int PAIRS = MOST_TARGETS * MOST_ASPECTS;

        // A bit a setting, so that a change forgets a target's aspect in one step.
        private final int[] doneSettings = new int[PAIRS];
        private final int[] passedSettings = new int[PAIRS];
        private final int[] doneTimes = new int[PAIRS];
        private final long[] results = new long[PAIRS * SETTINGS];
        private final int[] makers = new int[MOST_TARGETS * NAMES];
        private final int[] makerSettings = new int[MOST_TARGETS * NAMES];
        private int nowDone;

        Memory() {
            Arrays.fill(makers, NONE);
        }

        private static int pair(int target, int aspect) {
            return target * MOST_ASPECTS + aspect;
        }

        int known(int target, int aspect, int setting) {
            int pair = pair(target, aspect);
            if ((doneSettings[pair] >> setting & 1) != 0) {
                return DONE;
            }
            return (passedSettings[pair] >> setting & 1) != 0 ? PASSED : NONE;
        }

        void keepPassed(int target, int aspect, int setting) {
            passedSettings[pair(target, aspect)] |= 1 << setting;
        }

        void keepDone(int target, int aspect, int setting, long given) {
            int pair = pair(target, aspect);
            doneSettings[pair] |= 1 << setting;
            doneTimes[pair]++;
            results[pair * SETTINGS + setting] = given;
            nowDone++;
        }

        void forget(int target, int aspect, int name) {
            int pair = pair(target, aspect);
            nowDone -= Integer.bitCount(doneSettings[pair]);
            doneSettings[pair] = 0;
            passedSettings[pair] = 0;
            if (name != NONE && makerOf(target, name) == aspect) {
                makers[target * NAMES + name] = NONE;
            }
        }

        long resultOf(int target, int aspect, int setting) {
            return results[pair(target, aspect) * SETTINGS + setting];
        }

        int timesDone(int target, int aspect) {
            return doneTimes[pair(target, aspect)];
        }

        int doneCount() {
            return nowDone;
        }

        int makerOf(int target, int name) {
            return makers[target * NAMES + name];
        }

        int makerSettingOf(int target, int name) {
            return makerSettings[target * NAMES + name];
        }

        void keepMaker(int target, int name, int aspect, int setting) {
            makers[target * NAMES + name] = aspect;
            makerSettings[target * NAMES + name] = setting;
        }
    }
}
