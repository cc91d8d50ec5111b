import java.util.ArrayList;
import java.util.HashMap;
import java.util.HashSet;
import java.util.List;
import java.util.Map;
import java.util.Set;

/** The document's words written out with maps and sets, to hold the class against. */
final class PlainModel {
    private record Doing(int target, int aspect, int setting) {
    }

    private record Output(int target, int name) {
    }

    private static final class Thing {
        long value;
        int providers;
        int of = -1;
        final List<List<Integer>> rows = List.of(
                new ArrayList<>(), new ArrayList<>(), new ArrayList<>());
    }

    private record Kind(int kind, int along, int wants, int gives, int name, List<Integer> needs) {
    }

    private static final class Clash extends RuntimeException {
        private static final long serialVersionUID = 1L;
    }

    private final List<Thing> things = new ArrayList<>();
    private final List<Kind> kinds = new ArrayList<>();
    private final Map<Doing, Long> results = new HashMap<>();
    private final Set<Doing> passed = new HashSet<>();
    private final Map<Output, Doing> makers = new HashMap<>();
    private final Map<List<Integer>, Integer> times = new HashMap<>();
    private int[] told = {-1, -1, -1, -1, -1};

    int target(long value, int providers) {
        if (things.size() == 20) {
            return -1;
        }
        Thing thing = new Thing();
        thing.value = value;
        thing.providers = providers & 255;
        things.add(thing);
        return things.size() - 1;
    }

    int alias(int of) {
        if (things.size() == 20 || !isThing(of)) {
            return -1;
        }
        Thing thing = new Thing();
        thing.of = of;
        things.add(thing);
        return things.size() - 1;
    }

    int stands(int target) {
        if (!isThing(target)) {
            return -1;
        }
        int of = things.get(target).of;
        return of == -1 ? target : stands(of);
    }

    boolean add(int target, int attribute, int other) {
        if (!isThing(target) || !isThing(other) || attribute < 0 || attribute > 2) {
            return false;
        }
        Thing thing = things.get(target);
        if (thing.of != -1 || other >= target || thing.rows.get(attribute).size() == 4) {
            return false;
        }
        thing.rows.get(attribute).add(other);
        changing(target);
        return true;
    }

    boolean change(int target, long value, int providers) {
        if (!isThing(target) || things.get(target).of != -1) {
            return false;
        }
        Thing thing = things.get(target);
        boolean other = thing.value != value || thing.providers != (providers & 255);
        thing.value = value;
        thing.providers = providers & 255;
        if (other) {
            changing(target);
        }
        return true;
    }

    int aspect(int kind, int along, int wants, int gives, int name) {
        if (kinds.size() == 8 || kind < 0 || kind > 3 || name < -1 || name > 9) {
            return -1;
        }
        kinds.add(new Kind(kind, along & 7, wants & 255, gives & 255, name, new ArrayList<>()));
        return kinds.size() - 1;
    }

    int need(int aspect, int other) {
        if (!isKind(aspect) || !isKind(other)) {
            return -1;
        }
        List<Integer> needs = kinds.get(aspect).needs();
        if (needs.contains(other) || needs.size() == 3) {
            return -1;
        }
        if (needsSomehow(other, aspect)) {
            return -2;
        }
        needs.add(other);
        forget(doing -> needsSomehow(doing.aspect(), aspect));
        return 1;
    }

    int apply(int target, int aspect, int setting) {
        if (!isAny(target, aspect, setting)) {
            return -1;
        }
        try {
            return doing(target, aspect, setting) == null ? 0 : 1;
        } catch (Clash clash) {
            return -2;
        }
    }

    int clash(int what) {
        return what < 0 || what > 4 ? -1 : told[what];
    }

    int state(int target, int aspect, int setting) {
        Doing doing = new Doing(stands(target), aspect, setting);
        return results.containsKey(doing) ? 1 : passed.contains(doing) ? 0 : -1;
    }

    long result(int target, int aspect, int setting) {
        if (!isAny(target, aspect, setting)) {
            throw new IllegalArgumentException();
        }
        Long result = results.get(new Doing(stands(target), aspect, setting));
        if (result == null) {
            throw new IllegalStateException();
        }
        return result;
    }

    int worked(int target, int aspect) {
        return times.getOrDefault(List.of(stands(target), aspect), 0);
    }

    int done() {
        return results.size();
    }

    int maker(int target, int name) {
        Doing maker = makers.get(new Output(stands(target), name));
        return maker == null ? -1 : maker.aspect();
    }

    private boolean isThing(int target) {
        return target >= 0 && target < things.size();
    }

    private boolean isKind(int aspect) {
        return aspect >= 0 && aspect < kinds.size();
    }

    private boolean isAny(int target, int aspect, int setting) {
        return isThing(target) && isKind(aspect) && setting >= 0 && setting <= 15;
    }

    /** What it gives, or null if it is passed. */
    private Long doing(int asked, int aspect, int setting) {
        int target = stands(asked);
        Doing doing = new Doing(target, aspect, setting);
        if (results.containsKey(doing) || passed.contains(doing)) {
            return results.get(doing);
        }
        Thing thing = things.get(target);
        Kind kind = kinds.get(aspect);
        List<Long> needed = new ArrayList<>();
        int offered = thing.providers;
        for (int other : kind.needs()) {
            Long part = doing(target, other, setting);
            if (part != null) {
                needed.add(part);
                offered |= kinds.get(other).gives();
            }
        }
        if ((kind.wants() & offered) != kind.wants()) {
            passed.add(doing);
            return null;
        }
        List<Long> below = new ArrayList<>();
        for (int attribute = 0; attribute < 3; attribute++) {
            if ((kind.along() & 1 << attribute) != 0) {
                for (int other : thing.rows.get(attribute)) {
                    Long part = doing(other, aspect, setting);
                    if (part != null) {
                        below.add(part);
                    }
                }
            }
        }
        make(doing, kind.name());
        long result = join(kind.kind(), thing.value + setting, below, needed);
        results.put(doing, result);
        times.merge(List.of(target, aspect), 1, Integer::sum);
        return result;
    }

    private void make(Doing doing, int name) {
        if (name == -1) {
            return;
        }
        Doing maker = makers.putIfAbsent(new Output(doing.target(), name), doing);
        if (maker != null) {
            told = new int[] {doing.target(), doing.aspect(), doing.setting(), maker.aspect(),
                maker.setting()};
            throw new Clash();
        }
    }

    private static long join(int kind, long own, List<Long> below, List<Long> needed) {
        List<Long> parts = new ArrayList<>(below);
        parts.addAll(needed);
        long x = own;
        switch (kind) {
            case 0:
                for (long part : parts) {
                    x += part;
                }
                return x;
            case 1:
                for (long part : parts) {
                    x = part > x ? part : x;
                }
                return x;
            case 2:
                for (long part : parts) {
                    x = 31 * x + part;
                }
                return x;
            default:
                x = 1;
                for (long part : below) {
                    x += part;
                }
                return x;
        }
    }

    private void changing(int target) {
        forget(doing -> hasSomehow(doing.target(), target));
    }

    private void forget(java.util.function.Predicate<Doing> which) {
        results.keySet().removeIf(which);
        passed.removeIf(which);
        makers.values().removeIf(which);
    }

    private boolean hasSomehow(int target, int other) {
        int end = stands(target);
        if (end == other) {
            return true;
        }
        for (List<Integer> row : things.get(end).rows) {
            for (int below : row) {
                if (hasSomehow(below, other)) {
                    return true;
                }
            }
        }
        return false;
    }

    private boolean needsSomehow(int aspect, int other) {
        if (aspect == other) {
            return true;
        }
        for (int needed : kinds.get(aspect).needs()) {
            if (needsSomehow(needed, other)) {
                return true;
            }
        }
        return false;
    }
}
