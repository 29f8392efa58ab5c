import java.util.ArrayList;
import java.util.List;
import java.util.TreeSet;

/**
 * Whether a refused call changes nothing: two objects are made by the same calls, one of them with
 * the refused call behind them, and both are asked of every part of their state, though not on
 * every day. As an object may be used for 512 calls only, new ones are made again and again.
 */
final class Probe {
    private static final int MOST_DAYS = 8;
    private static final int[] PLACES = {0, 1, 2, 3, 59, 60, 61};

    private final List<Call> accepted;
    private final Call refused;
    private final int sources;
    private final int claims;
    private final TreeSet<Integer> days = new TreeSet<>(List.of(0, 100000));
    private String difference = "nothing";

    private Probe(List<Call> accepted, Call refused) {
        this.accepted = accepted;
        this.refused = refused;
        ClaimSources without = new ClaimSources();
        accepted.forEach(call -> call.on(without));
        sources = without.count(1);
        claims = without.count(2);
        addDays(refused);
        for (int i = accepted.size() - 1; i >= 0; i--) {
            addDays(accepted.get(i));
        }
    }

    /** The first question that the two objects answer differently, or "nothing". */
    static String difference(List<Call> accepted, Call refused) {
        Probe probe = new Probe(accepted, refused);
        probe.askAll();
        return probe.difference;
    }

    private void addDays(Call call) {
        for (Object argument : call.arguments()) {
            boolean isDay = argument instanceof Integer day && day >= 0 && day <= 100000;
            if (isDay && days.size() < MOST_DAYS) {
                days.add((Integer) argument);
            }
        }
    }

    private void askAll() {
        ask(List.of(), countsAndRing());
        ask(List.of(), heldAndOpened());
        ask(List.of(), quotes());
        ask(List.of(), whatChangesTell());
        for (int rule = 0; rule <= 2; rule++) {
            ask(forEachClaim("rule", rule), agreedAndDissent());
        }
        // A form is read by a citation, which needs a source; there may be none so far.
        Call source = new Call("source", 0, 0);
        ask(List.of(new Call("form", 3), source), citations(0, 3, 60));
        for (int form = 0; form <= 3; form++) {
            ask(List.of(source), citations(0, form, 10));
        }
        List<Call> dayAndKind = List.of(new Call("clear"), new Call("unit", 64),
                new Call("unit", 36), new Call("form", 2));
        for (int number = 0; number < sources; number++) {
            ask(dayAndKind, citations(number, 2, 7));
        }
    }

    private void ask(List<Call> before, List<Call> questions) {
        int room = Run.CALLS - accepted.size() - 1 - before.size();
        if (room < 1) {
            throw new AssertionError("no call is left to ask with");
        }
        for (int from = 0; from < questions.size(); from += room) {
            int to = Math.min(from + room, questions.size());
            compare(before, questions.subList(from, to));
        }
    }

    private void compare(List<Call> before, List<Call> questions) {
        ClaimSources with = new ClaimSources();
        ClaimSources without = new ClaimSources();
        for (Call call : accepted) {
            call.on(with);
            call.on(without);
        }
        refused.on(with);
        List<Call> all = new ArrayList<>(before);
        all.addAll(questions);
        for (Call call : all) {
            boolean same = call.on(with).equals(call.on(without));
            if (!same && difference.equals("nothing")) {
                difference = call.toString();
            }
        }
    }

    private List<Call> countsAndRing() {
        List<Call> calls = new ArrayList<>();
        for (int what = 0; what <= 4; what++) {
            calls.add(new Call("count", what));
        }
        for (int k = 0; k <= 24; k++) {
            calls.add(new Call("ring", k));
        }
        return calls;
    }

    private List<Call> heldAndOpened() {
        List<Call> calls = new ArrayList<>();
        for (int day : days) {
            calls.addAll(forEachClaim("held", day));
            for (int source = 0; source < sources; source++) {
                calls.add(new Call("opened", source, day, 0));
                calls.add(new Call("opened", source, day, 1));
            }
        }
        return calls;
    }

    private List<Call> agreedAndDissent() {
        List<Call> calls = new ArrayList<>();
        for (int day : days) {
            calls.addAll(forEachClaim("agreed", day));
            calls.addAll(forEachClaim("dissent", day, 0));
            calls.addAll(forEachClaim("dissent", day, 1));
        }
        return calls;
    }

    private List<Call> quotes() {
        List<Call> calls = new ArrayList<>();
        for (int source = 0; source < sources; source++) {
            for (int at : PLACES) {
                calls.add(new Call("quote", source, at));
            }
        }
        return calls;
    }

    /** What is told only by a call that changes it: each of these changes something else. */
    private List<Call> whatChangesTell() {
        List<Call> calls = new ArrayList<>(forEachClaim("rule", 0));
        for (int source = 0; source < sources; source++) {
            calls.add(new Call("withdraw", source, -1));
            calls.addAll(forEachClaim("rests", source, false));
        }
        for (int other = 0; other < claims; other++) {
            calls.addAll(forEachClaim("lift", other));
            calls.add(new Call("opinion", 0, other, 0, 0, 0));
        }
        return calls;
    }

    private static List<Call> citations(int source, int form, int signs) {
        List<Call> calls = new ArrayList<>();
        for (int i = -1; i < signs; i++) {
            calls.add(new Call("cite", source, form, i));
        }
        return calls;
    }

    private List<Call> forEachClaim(String name, Object... behind) {
        List<Call> calls = new ArrayList<>();
        for (int claim = 0; claim < claims; claim++) {
            Object[] arguments = new Object[behind.length + 1];
            arguments[0] = claim;
            System.arraycopy(behind, 0, arguments, 1, behind.length);
            calls.add(new Call(name, arguments));
        }
        return calls;
    }
}
