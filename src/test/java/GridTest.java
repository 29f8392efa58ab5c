import java.util.ArrayList;
import java.util.List;

/**
 * Every call with every choice of numbers at and beside the bounds for its arguments, on objects
 * that are new, begun and full, compared with the model's answers. So every mixture of arguments
 * of which several are wrong is met, where the order of the exceptions counts.
 */
final class GridTest {
    private static final int LEAST = Integer.MIN_VALUE;
    private static final int GREATEST = Integer.MAX_VALUE;

    private static final Object[] SIGNS = {LEAST, -1, 0, 1, 97, 127, 128, GREATEST};
    private static final Object[] KINDS = {LEAST, -1, 0, 25, 26, GREATEST};
    private static final Object[] DAYS = {LEAST, -2, -1, 0, 7, 100000, 100001, GREATEST};
    private static final Object[] PERSONS = {LEAST, -1, 0, 31, 32, GREATEST};
    private static final Object[] VALUES = {LEAST, -1, 0, 99, 100, GREATEST};
    private static final Object[] RANKS = {LEAST, -1, 0, 9, 10, GREATEST};
    private static final Object[] RULES = {LEAST, -1, 0, 1, 2, 3, GREATEST};
    private static final Object[] FORMS = {LEAST, -1, 0, 3, 4, GREATEST};
    private static final Object[] PLACES = {LEAST, -2, -1, 0, 1, 2, 3, 4, 59, 60, 61, GREATEST};
    private static final Object[] COUNTS = {LEAST, -1, 0, 1, 2, 3, 4, 5, GREATEST};
    private static final Object[] ON = {true, false};

    private final String state;
    private final List<Call> begin;
    private final Object[] sources;
    private final Object[] claims;
    private ClaimSources x;
    private Model model;
    private int made;

    private GridTest(String state, List<Call> begin) {
        this.state = state;
        this.begin = begin;
        start();
        sources = numbers(model.count(1));
        claims = numbers(model.count(2));
    }

    public static void main(String[] args) {
        new GridTest("new", List.of()).compareAll();
        new GridTest("one of each", begun(1, 1)).compareAll();
        new GridTest("three of each", begun(3, 3)).compareAll();
        new GridTest("full", full()).compareAll();
        new GridTest("300 opinions", fullOfOpinions()).compareAll();
        Due.end();
    }

    private static List<Call> begun(int sources, int claims) {
        List<Call> calls = new ArrayList<>();
        for (int i = 0; i < sources; i++) {
            calls.add(new Call("unit", 97));
            calls.add(new Call("unit", 98 + i));
            calls.add(new Call("source", i, 7 * i));
        }
        for (int i = 0; i < claims; i++) {
            calls.add(new Call("claim"));
            calls.add(new Call("rests", i, sources - 1 - i, true));
            calls.add(new Call("restsOn", i, i - 1));
            calls.add(new Call("opinion", i, i, 99, 7, 9));
            calls.add(new Call("opinion", 31, i, 0, 0, 0));
        }
        for (int form = 0; form <= 3; form++) {
            for (int sign : new int[] {35, 64, 36}) {
                calls.add(new Call("unit", sign));
            }
            calls.add(new Call("form", form));
        }
        calls.add(new Call("unit", 97));
        return calls;
    }

    private static List<Call> full() {
        List<Call> calls = begun(24, 24);
        for (int i = 0; i < 59; i++) {
            calls.add(new Call("unit", 97));
        }
        return calls;
    }

    private static List<Call> fullOfOpinions() {
        List<Call> calls = begun(2, 2);
        // Four are there; persons 0 to 30 meet those of the grid on its days.
        for (int i = 0; i < 296; i++) {
            calls.add(new Call("opinion", 1 + i % 30, i / 30 % 2, i % 100, 8 + i / 60, i % 10));
        }
        return calls;
    }

    private static Object[] numbers(int made) {
        return new Object[] {LEAST, -1, 0, 1, made - 1, made, 24, GREATEST};
    }

    private void compareAll() {
        compare("unit", new Object[][] {SIGNS});
        compare("clear");
        compare("source", KINDS, DAYS);
        compare("claim");
        compare("rests", claims, sources, ON);
        compare("restsOn", claims, claims);
        compare("ring", new Object[][] {PLACES});
        compare("lift", claims, claims);
        compare("withdraw", sources, DAYS);
        compare("opinion", PERSONS, claims, VALUES, DAYS, RANKS);
        compare("rule", claims, RULES);
        compare("agreed", claims, DAYS);
        compare("dissent", claims, DAYS, PLACES);
        compare("held", claims, DAYS);
        compare("opened", sources, DAYS, PLACES);
        compare("quote", sources, PLACES);
        compare("form", new Object[][] {FORMS});
        compare("cite", sources, FORMS, PLACES);
        compare("count", new Object[][] {COUNTS});
    }

    private void compare(String name, Object[]... choices) {
        start();
        int combinations = 1;
        for (Object[] choice : choices) {
            combinations *= choice.length;
        }
        for (int combination = 0; combination < combinations; combination++) {
            Object[] arguments = new Object[choices.length];
            int left = combination;
            for (int i = 0; i < choices.length; i++) {
                arguments[i] = choices[i][left % choices[i].length];
                left /= choices[i].length;
            }
            compareOne(new Call(name, arguments));
        }
        compareCounts();
    }

    private void compareOne(Call call) {
        // Five calls are kept for the counts.
        if (made + 5 >= Run.CALLS) {
            compareCounts();
            start();
        }
        made++;
        Due.due(state + ": " + call, call.on(x), call.on(model));
    }

    private void compareCounts() {
        for (int what = 0; what <= 4; what++) {
            Due.due(state + ": count(" + what + ")", x.count(what), model.count(what));
        }
    }

    private void start() {
        x = new ClaimSources();
        model = new Model();
        made = begin.size();
        for (Call call : begin) {
            Due.due(state + ": at the beginning " + call, call.on(x), call.on(model));
        }
    }
}
