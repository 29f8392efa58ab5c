import java.util.ArrayDeque;
import java.util.ArrayList;
import java.util.HashMap;
import java.util.HashSet;
import java.util.List;
import java.util.Map;
import java.util.NoSuchElementException;
import java.util.Set;
import java.util.TreeMap;
import java.util.TreeSet;

/**
 * The document once more, by the Java library and with other ways than the class has, so that
 * ModelTest can compare the two.
 */
final class Model {
    private record Source(int kind, int day, String text) {
    }

    private record Saying(int day, int value, int rank) {
    }

    private final StringBuilder pad = new StringBuilder();
    private final List<Source> sources = new ArrayList<>();
    private final Map<Integer, Integer> withdrawn = new HashMap<>();
    private final List<Set<Integer>> onSources = new ArrayList<>();
    private final List<TreeSet<Integer>> onClaims = new ArrayList<>();
    private final List<Integer> rules = new ArrayList<>();
    private final List<TreeMap<Integer, TreeMap<Integer, Saying>>> sayings = new ArrayList<>();
    private final String[] forms = {"", "", "", ""};
    private List<Integer> ring = new ArrayList<>();

    int unit(int sign) {
        argument(sign >= 1 && sign <= 127);
        state(pad.length() < 60);
        pad.append((char) sign);
        return pad.length();
    }

    int clear() {
        return takePad().length();
    }

    int source(int kind, int day) {
        argument(kind >= 0 && kind <= 25 && isDay(day));
        state(sources.size() < 24);
        sources.add(new Source(kind, day, takePad()));
        return sources.size() - 1;
    }

    int claim() {
        state(rules.size() < 24);
        onSources.add(new HashSet<>());
        onClaims.add(new TreeSet<>());
        sayings.add(new TreeMap<>());
        rules.add(0);
        return rules.size() - 1;
    }

    boolean rests(int claim, int source, boolean on) {
        element(isClaim(claim) && isSource(source));
        Set<Integer> set = onSources.get(claim);
        return on ? set.add(source) : set.remove(source);
    }

    int restsOn(int claim, int other) {
        element(isClaim(claim) && isClaim(other));
        List<Integer> found = shortestRing(claim, other);
        if (found != null) {
            ring = found;
            return -1;
        }
        return onClaims.get(claim).add(other) ? 1 : 0;
    }

    int ring(int k) {
        element(k >= 0);
        return k < ring.size() ? ring.get(k) : -1;
    }

    boolean lift(int claim, int other) {
        element(isClaim(claim) && isClaim(other));
        return onClaims.get(claim).remove(other);
    }

    int withdraw(int source, int day) {
        element(isSource(source));
        argument(day == -1 || isDay(day));
        Integer former = day == -1 ? withdrawn.remove(source) : withdrawn.put(source, day);
        return former == null ? -1 : former;
    }

    int opinion(int person, int claim, int v, int day, int rank) {
        element(person >= 0 && person <= 31 && isClaim(claim));
        argument(v >= 0 && v <= 99 && isDay(day) && rank >= 0 && rank <= 9);
        TreeMap<Integer, Saying> own = sayings.get(claim).get(person);
        state(count(3) < 300 || own != null && own.containsKey(day));
        sayings.get(claim).computeIfAbsent(person, p -> new TreeMap<>())
                .put(day, new Saying(day, v, rank));
        return opinionsOf(claim);
    }

    int rule(int claim, int kind) {
        element(isClaim(claim));
        argument(kind >= 0 && kind <= 2);
        return rules.set(claim, kind);
    }

    int agreed(int claim, int day) {
        element(isClaim(claim));
        argument(isDay(day));
        List<Saying> known = new ArrayList<>(known(claim, day).values());
        if (known.isEmpty() || !held(claim, day)) {
            return -1;
        }
        Set<Integer> values = new HashSet<>();
        for (Saying saying : known) {
            if (isDecisive(saying, known, rules.get(claim))) {
                values.add(saying.value());
            }
        }
        return values.size() > 1 ? -2 : values.iterator().next();
    }

    int dissent(int claim, int day, int k) {
        element(isClaim(claim) && k >= 0);
        argument(isDay(day));
        int agreed = agreed(claim, day);
        List<Integer> persons = new ArrayList<>();
        known(claim, day).forEach((person, saying) -> {
            if (agreed < 0 || saying.value() != agreed) {
                persons.add(person);
            }
        });
        return k < persons.size() ? persons.get(k) : -1;
    }

    boolean held(int claim, int day) {
        element(isClaim(claim));
        argument(isDay(day));
        return isHeld(claim, day, -1);
    }

    int opened(int source, int day, int k) {
        element(isSource(source) && k >= 0);
        argument(isDay(day));
        List<Integer> claims = new ArrayList<>();
        for (int claim = 0; claim < rules.size(); claim++) {
            if (isHeld(claim, day, -1) && !isHeld(claim, day, source)) {
                claims.add(claim);
            }
        }
        return k < claims.size() ? claims.get(k) : -1;
    }

    int quote(int source, int at) {
        element(isSource(source) && at >= 0 && at <= sources.get(source).text().length());
        String rest = sources.get(source).text().substring(at);
        int same = 0;
        while (same < pad.length() && rest.startsWith(pad.substring(0, same + 1))) {
            same++;
        }
        return same == pad.length() ? 0 : same + 1;
    }

    int form(int k) {
        element(k >= 0 && k <= 3);
        forms[k] = takePad();
        return forms[k].length();
    }

    int cite(int source, int form, int i) {
        element(isSource(source) && form >= 0 && form <= 3 && i >= -1);
        Source cited = sources.get(source);
        String citation = forms[form].replace("#", String.valueOf(source))
                .replace("@", String.valueOf(cited.day()))
                .replace("$", String.valueOf((char) ('a' + cited.kind())));
        element(i < citation.length());
        return i == -1 ? citation.length() : citation.charAt(i);
    }

    int count(int what) {
        argument(what >= 0 && what <= 4);
        int sum = 0;
        for (int claim = 0; claim < rules.size(); claim++) {
            sum += what == 3 ? opinionsOf(claim) : onClaims.get(claim).size();
        }
        return what == 0 ? pad.length() : what == 1 ? sources.size()
                : what == 2 ? rules.size() : sum;
    }

    private String takePad() {
        String text = pad.toString();
        pad.setLength(0);
        return text;
    }

    private int opinionsOf(int claim) {
        return sayings.get(claim).values().stream().mapToInt(TreeMap::size).sum();
    }

    private TreeMap<Integer, Saying> known(int claim, int day) {
        TreeMap<Integer, Saying> known = new TreeMap<>();
        sayings.get(claim).forEach((person, own) -> {
            if (own.floorEntry(day) != null) {
                known.put(person, own.floorEntry(day).getValue());
            }
        });
        return known;
    }

    /** Whether the saying's value is one that the rule asks for. */
    private static boolean isDecisive(Saying one, List<Saying> known, int rule) {
        if (rule == 2) {
            return true;
        }
        if (rule == 1) {
            return known.stream().noneMatch(s -> s.rank() > one.rank()
                    || s.rank() == one.rank() && s.day() > one.day());
        }
        return known.stream().noneMatch(s -> having(s.value(), known) > having(one.value(), known));
    }

    private static long having(int value, List<Saying> known) {
        return known.stream().filter(s -> s.value() == value).count();
    }

    private boolean isHeld(int claim, int day, int without) {
        Set<Integer> below = new TreeSet<>();
        collect(claim, below);
        for (int one : below) {
            for (int source : onSources.get(one)) {
                if (source != without && sources.get(source).day() <= day
                        && withdrawn.getOrDefault(source, Integer.MAX_VALUE) > day) {
                    return true;
                }
            }
        }
        return false;
    }

    private void collect(int claim, Set<Integer> below) {
        if (below.add(claim)) {
            onClaims.get(claim).forEach(other -> collect(other, below));
        }
    }

    /** Grows paths from the other claim, the lowest first, so the first that ends is the one. */
    private List<Integer> shortestRing(int claim, int other) {
        ArrayDeque<List<Integer>> paths = new ArrayDeque<>();
        Set<Integer> seen = new HashSet<>(Set.of(other));
        paths.add(List.of(other));
        while (!paths.isEmpty()) {
            List<Integer> path = paths.remove();
            int last = path.get(path.size() - 1);
            if (last == claim) {
                List<Integer> found = new ArrayList<>(List.of(claim));
                found.addAll(path.subList(0, path.size() - 1));
                return found;
            }
            for (int next : onClaims.get(last)) {
                if (seen.add(next)) {
                    List<Integer> longer = new ArrayList<>(path);
                    longer.add(next);
                    paths.add(longer);
                }
            }
        }
        return null;
    }

    private boolean isSource(int source) {
        return source >= 0 && source < sources.size();
    }

    private boolean isClaim(int claim) {
        return claim >= 0 && claim < rules.size();
    }

    private static boolean isDay(int day) {
        return day >= 0 && day <= 100000;
    }

    private static void element(boolean there) {
        if (!there) {
            throw new NoSuchElementException();
        }
    }

    private static void argument(boolean right) {
        if (!right) {
            throw new IllegalArgumentException();
        }
    }

    private static void state(boolean right) {
        if (!right) {
            throw new IllegalStateException();
        }
    }
}
