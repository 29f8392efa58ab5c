import java.util.ArrayList;
import java.util.List;
import java.util.function.Consumer;
import java.util.function.Supplier;

/**
 * A call that throws changes nothing: after it an object answers what its twin answers, that was
 * made by the same calls without it.
 */
final class RefusalTest {
    private static final int[] OUTSIDE = {-2, -1, 200000, Integer.MIN_VALUE, Integer.MAX_VALUE};

    public static void main(String[] args) {
        for (Consumer<ClaimSources> call : wrongArguments()) {
            compare("a rich object", RefusalTest::rich, call);
        }
        for (Consumer<ClaimSources> call : beyondLimits()) {
            compare("a full object", RefusalTest::full, call);
        }
        for (Consumer<ClaimSources> call : oneOpinionMore()) {
            compare("300 opinions", RefusalTest::fullOfOpinions, call);
        }
        Due.end();
    }

    private static void compare(String what, Supplier<ClaimSources> maker,
            Consumer<ClaimSources> call) {
        ClaimSources x = maker.get();
        boolean thrown = false;
        try {
            call.accept(x);
        } catch (RuntimeException e) {
            thrown = true;
        }
        Due.due(what + ": refused", thrown, true);
        Due.due(what + ": nothing changed", tellAll(x), tellAll(maker.get()));
    }

    private static ClaimSources rich() {
        ClaimSources x = new ClaimSources();
        Make.write(x, "one");
        x.source(3, 10);
        Make.write(x, "two");
        x.source(4, 20);
        for (int i = 0; i < 4; i++) {
            x.claim();
        }
        x.rests(0, 0, true);
        x.rests(1, 1, true);
        x.restsOn(2, 1);
        x.restsOn(3, 2);
        x.restsOn(1, 3);
        x.withdraw(1, 40);
        x.rule(1, 1);
        x.rule(2, 2);
        x.opinion(0, 0, 5, 10, 1);
        x.opinion(1, 0, 6, 15, 2);
        x.opinion(0, 1, 7, 20, 3);
        x.opinion(3, 1, 8, 25, 2);
        Make.write(x, "#$@");
        x.form(0);
        Make.write(x, "tw");
        return x;
    }

    private static ClaimSources full() {
        ClaimSources x = Make.with(24, 24);
        Make.write(x, "p".repeat(60));
        return x;
    }

    private static ClaimSources fullOfOpinions() {
        ClaimSources x = Make.with(1, 3);
        for (int claim = 0; claim < 3; claim++) {
            x.rests(claim, 0, true);
        }
        for (int i = 0; i < 300; i++) {
            x.opinion(i % 5, i % 3, i % 4, i / 15, i % 10);
        }
        return x;
    }

    private static List<Consumer<ClaimSources>> wrongArguments() {
        List<Consumer<ClaimSources>> calls = new ArrayList<>();
        for (int out : OUTSIDE) {
            calls.add(x -> x.unit(out));
            calls.add(x -> x.source(out, 0));
            calls.add(x -> x.source(0, out));
            calls.add(x -> x.rests(out, 0, false));
            calls.add(x -> x.rests(0, out, true));
            calls.add(x -> x.restsOn(out, 0));
            calls.add(x -> x.restsOn(0, out));
            calls.add(x -> x.restsOn(out, out));
            calls.add(x -> x.lift(out, 1));
            calls.add(x -> x.lift(2, out));
            calls.add(x -> x.withdraw(out, 0));
            calls.add(x -> x.opinion(out, 0, 1, 1, 1));
            calls.add(x -> x.opinion(0, out, 1, 1, 1));
            calls.add(x -> x.opinion(0, 0, out, 10, 1));
            calls.add(x -> x.opinion(0, 0, 1, out, 1));
            calls.add(x -> x.opinion(0, 0, 1, 10, out));
            calls.add(x -> x.rule(out, 1));
            calls.add(x -> x.rule(0, out));
            calls.add(x -> x.agreed(out, 10));
            calls.add(x -> x.agreed(0, out));
            calls.add(x -> x.dissent(out, 10, 0));
            calls.add(x -> x.dissent(0, out, 0));
            calls.add(x -> x.held(out, 10));
            calls.add(x -> x.held(0, out));
            calls.add(x -> x.opened(out, 10, 0));
            calls.add(x -> x.opened(0, out, 0));
            calls.add(x -> x.quote(out, 0));
            calls.add(x -> x.quote(0, out));
            calls.add(x -> x.form(out));
            calls.add(x -> x.cite(out, 0, 0));
            calls.add(x -> x.cite(0, out, 0));
            calls.add(x -> x.count(out));
        }
        calls.add(x -> x.ring(-1));
        calls.add(x -> x.withdraw(0, -2));
        calls.add(x -> x.withdraw(1, 100001));
        calls.add(x -> x.dissent(0, 10, -1));
        calls.add(x -> x.opened(0, 10, -1));
        calls.add(x -> x.cite(0, 0, 4));
        return calls;
    }

    private static List<Consumer<ClaimSources>> beyondLimits() {
        List<Consumer<ClaimSources>> calls = new ArrayList<>();
        calls.add(x -> x.unit(1));
        calls.add(x -> x.source(1, 1));
        calls.add(ClaimSources::claim);
        calls.add(x -> x.rests(24, 0, true));
        calls.add(x -> x.rests(0, 24, true));
        calls.add(x -> x.restsOn(0, 24));
        return calls;
    }

    private static List<Consumer<ClaimSources>> oneOpinionMore() {
        List<Consumer<ClaimSources>> calls = new ArrayList<>();
        calls.add(x -> x.opinion(31, 0, 1, 0, 0));
        calls.add(x -> x.opinion(0, 0, 99, 100000, 9));
        calls.add(x -> x.opinion(4, 2, 99, 21, 9));
        return calls;
    }

    /** All that can be asked of the first claims and sources, and last what only a change tells. */
    private static String tellAll(ClaimSources x) {
        StringBuilder all = new StringBuilder();
        for (int what = 0; what <= 4; what++) {
            all.append(x.count(what)).append(' ');
        }
        all.append("ring ").append(Make.ring(x));
        int claims = Math.min(4, x.count(2));
        int sources = Math.min(2, x.count(1));
        for (int day : new int[] {15, 40}) {
            for (int claim = 0; claim < claims; claim++) {
                all.append(" held ").append(x.held(claim, day));
                all.append(" agreed ").append(x.agreed(claim, day));
                all.append(" dissent ").append(Make.dissenters(x, claim, day));
            }
            for (int source = 0; source < sources; source++) {
                all.append(" opened ").append(Make.opened(x, source, day));
            }
        }
        for (int source = 0; source < sources; source++) {
            all.append(" cite ").append(Make.citation(x, source, 0));
            all.append(" quote ").append(x.quote(source, 0));
            all.append(" withdrawn ").append(x.withdraw(source, -1));
        }
        for (int claim = 0; claim < claims; claim++) {
            all.append(" rule ").append(x.rule(claim, 0));
            for (int other = 0; other < claims; other++) {
                all.append(x.lift(claim, other) ? " lift" : " -");
            }
        }
        return all.toString();
    }
}
