import java.util.Random;
import java.util.function.Supplier;

/** All promises: runs of 512 calls, the same ones each time, compared with the model's answers. */
final class ModelTest {
    private static final int RUNS = 1500;
    private static final int CALLS = 512;

    /** How often each call comes, in the order of the switch in makeCall. */
    private static final int[] MIXED = {9, 1, 3, 3, 6, 8, 4, 3, 3, 10, 3, 8, 8, 6, 6, 6, 3, 6, 3};
    private static final int[] OPINIONS = {1, 0, 1, 1, 3, 2, 0, 0, 1, 70, 2, 12, 12, 1, 1, 0, 0, 0, 2};
    private static final int[] GRAPH = {0, 0, 1, 8, 8, 40, 16, 4, 2, 0, 0, 1, 0, 10, 10, 0, 0, 0, 3};
    private static final int[] TEXTS = {60, 1, 3, 0, 0, 0, 0, 0, 0, 0, 0, 0, 0, 0, 0, 12, 4, 20, 2};
    private static final int[][] MIXES = {MIXED, OPINIONS, GRAPH, TEXTS};

    private final ClaimSources x = new ClaimSources();
    private final Model model = new Model();
    private final Random random;
    private final int[] mix;
    private final int[] days;
    private String call;
    private Supplier<Object> got;
    private Supplier<Object> want;

    private ModelTest(int run) {
        random = new Random(run);
        mix = MIXES[run % MIXES.length];
        // Few days, so that calls meet on one day; the edges among them.
        days = new int[] {0, 1, 5, 6, 7, 1000, 99999, 100000, random.nextInt(100001)};
    }

    public static void main(String[] args) {
        for (int run = 0; run < RUNS; run++) {
            new ModelTest(run).compare(run);
        }
        Due.end();
    }

    private void compare(int run) {
        for (int i = 0; i < CALLS; i++) {
            makeCall(pick());
            Due.due("run " + run + " call " + i + ": " + call, answer(got), answer(want));
        }
    }

    private int pick() {
        int sum = 0;
        for (int weight : mix) {
            sum += weight;
        }
        int left = random.nextInt(sum);
        int which = 0;
        while (left >= mix[which]) {
            left -= mix[which];
            which++;
        }
        return which;
    }

    private static String answer(Supplier<Object> supplier) {
        try {
            return String.valueOf(supplier.get());
        } catch (RuntimeException e) {
            return "throws " + e.getClass().getName();
        }
    }

    private void makeCall(int which) {
        // The model is asked, not the object: that is used for 512 calls at most.
        int source = among(model.count(1));
        int claim = among(model.count(2));
        int other = among(model.count(2));
        int day = day();
        int form = among(4);
        int k = random.nextInt(12) == 0 ? among(30) : among(4);
        switch (which) {
            case 0 -> unit();
            case 1 -> set("clear()", x::clear, model::clear);
            case 2 -> source(among(26), day);
            case 3 -> set("claim()", x::claim, model::claim);
            case 4 -> rests(claim, source, random.nextInt(3) > 0);
            case 5 -> set("restsOn(" + claim + ", " + other + ")",
                    () -> x.restsOn(claim, other), () -> model.restsOn(claim, other));
            case 6 -> set("ring(" + k + ")", () -> x.ring(k), () -> model.ring(k));
            case 7 -> set("lift(" + claim + ", " + other + ")",
                    () -> x.lift(claim, other), () -> model.lift(claim, other));
            case 8 -> withdraw(source, random.nextInt(3) == 0 ? -1 : day);
            case 9 -> opinion(among(32), claim, day);
            case 10 -> rule(claim, among(3));
            case 11 -> set("agreed(" + claim + ", " + day + ")",
                    () -> x.agreed(claim, day), () -> model.agreed(claim, day));
            case 12 -> set("dissent(" + claim + ", " + day + ", " + k + ")",
                    () -> x.dissent(claim, day, k), () -> model.dissent(claim, day, k));
            case 13 -> set("held(" + claim + ", " + day + ")",
                    () -> x.held(claim, day), () -> model.held(claim, day));
            case 14 -> set("opened(" + source + ", " + day + ", " + k + ")",
                    () -> x.opened(source, day, k), () -> model.opened(source, day, k));
            case 15 -> quote(source, random.nextBoolean() ? among(5) : among(61));
            case 16 -> set("form(" + form + ")", () -> x.form(form), () -> model.form(form));
            case 17 -> cite(source, form, random.nextInt(3) == 0 ? -1 : among(20));
            default -> count(among(5));
        }
    }

    private void set(String text, Supplier<Object> onClass, Supplier<Object> onModel) {
        call = text;
        got = onClass;
        want = onModel;
    }

    private void unit() {
        int[] signs = {35, 36, 64, 97, 97, 98, 1, 127};
        int sign = random.nextInt(30) == 0 ? among(128) : signs[random.nextInt(signs.length)];
        set("unit(" + sign + ")", () -> x.unit(sign), () -> model.unit(sign));
    }

    private void source(int kind, int day) {
        set("source(" + kind + ", " + day + ")",
                () -> x.source(kind, day), () -> model.source(kind, day));
    }

    private void rests(int claim, int source, boolean on) {
        set("rests(" + claim + ", " + source + ", " + on + ")",
                () -> x.rests(claim, source, on), () -> model.rests(claim, source, on));
    }

    private void withdraw(int source, int day) {
        set("withdraw(" + source + ", " + day + ")",
                () -> x.withdraw(source, day), () -> model.withdraw(source, day));
    }

    private void opinion(int person, int claim, int day) {
        int value = random.nextInt(20) == 0 ? among(100) : random.nextInt(3);
        int rank = random.nextInt(20) == 0 ? among(10) : random.nextInt(3);
        set("opinion(" + person + ", " + claim + ", " + value + ", " + day + ", " + rank + ")",
                () -> x.opinion(person, claim, value, day, rank),
                () -> model.opinion(person, claim, value, day, rank));
    }

    private void rule(int claim, int kind) {
        set("rule(" + claim + ", " + kind + ")",
                () -> x.rule(claim, kind), () -> model.rule(claim, kind));
    }

    private void quote(int source, int at) {
        set("quote(" + source + ", " + at + ")",
                () -> x.quote(source, at), () -> model.quote(source, at));
    }

    private void cite(int source, int form, int i) {
        set("cite(" + source + ", " + form + ", " + i + ")",
                () -> x.cite(source, form, i), () -> model.cite(source, form, i));
    }

    private void count(int what) {
        set("count(" + what + ")", () -> x.count(what), () -> model.count(what));
    }

    private int day() {
        return random.nextInt(30) == 0 ? among(100001) : days[random.nextInt(days.length)];
    }

    /** Mostly a number below the bound, now and then one beside it or far away. */
    private int among(int bound) {
        int[] outside = {-1, -2, bound, bound + 1, Integer.MIN_VALUE, Integer.MAX_VALUE};
        if (bound == 0 || random.nextInt(40) == 0) {
            return outside[random.nextInt(outside.length)];
        }
        return random.nextInt(bound);
    }
}
