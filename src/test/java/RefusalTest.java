/**
 * Each call that is refused: which exception it is, the order in which the document names them
 * (NoSuchElementException, IllegalArgumentException, then IllegalStateException), and, by Run, that
 * such a call changes nothing.
 */
final class RefusalTest {
    private static final String NO_ELEMENT = Run.NO_ELEMENT;
    private static final String ARGUMENT = Run.ARGUMENT;
    private static final String STATE = Run.STATE;

    /** No number of a source, claim, person, form, day, sign, kind, value, rank or rule. */
    private static final int[] OUTSIDE = {-2, 100001, Run.LEAST, Run.GREATEST};

    public static void main(String[] args) {
        unit();
        source();
        claim();
        rests();
        restsOn();
        ring();
        lift();
        withdraw();
        opinion();
        opinionOfThreeHundred();
        rule();
        agreed();
        dissent();
        held();
        opened();
        quote();
        form();
        cite();
        count();
        newObject();
        Due.end();
    }

    /** Two sources, four claims, opinions, a ring, a form and a pad, all of them told by answers. */
    private static Run rich(String sentence) {
        Run x = new Run(sentence).write("one");
        x.go("source", 3, 10);
        x.write("two").go("source", 4, 20);
        x.with(0, 4);
        x.go("rests", 0, 0, true);
        x.go("rests", 1, 1, true);
        x.go("restsOn", 2, 1);
        x.go("restsOn", 3, 2);
        x.due(Run.NONE, "restsOn", 1, 3);
        x.go("withdraw", 1, 40);
        x.go("rule", 1, 1);
        x.go("rule", 2, 2);
        x.go("opinion", 0, 0, 5, 10, 1);
        x.go("opinion", 1, 0, 6, 15, 2);
        x.go("opinion", 0, 1, 7, 20, 3);
        x.go("opinion", 3, 1, 8, 25, 2);
        x.write("#$@").go("form", 0);
        x.write("tw");
        return x;
    }

    private static void unit() {
        Run x = rich("unit: no sign");
        Run full = rich("unit: no sign, and there are 60").write("u".repeat(58));
        for (int sign : new int[] {0, -1, 128, Run.LEAST, Run.GREATEST}) {
            x.refused(ARGUMENT, "unit", sign);
            full.refused(ARGUMENT, "unit", sign);
        }
        full.refused(STATE, "unit", 1);
        full.refused(STATE, "unit", 127);
        full.due(60, "count", 0);
    }

    private static void source() {
        Run x = rich("source: kind or day");
        Run full = rich("source: kind or day, and there are 24").with(22, 0).write("tw");
        for (int out : OUTSIDE) {
            for (Run run : new Run[] {x, full}) {
                run.refused(ARGUMENT, "source", out, 0);
                run.refused(ARGUMENT, "source", 0, out);
                run.refused(ARGUMENT, "source", out, out);
            }
        }
        full.refused(STATE, "source", 0, 0);
        full.refused(STATE, "source", 25, 100000);
    }

    private static void claim() {
        Run x = rich("claim: there are 24").with(0, 20);
        x.refused(STATE, "claim");
        x.refused(STATE, "claim");
    }

    private static void rests() {
        Run x = rich("rests: claim or source");
        for (int out : OUTSIDE) {
            for (boolean on : new boolean[] {true, false}) {
                x.refused(NO_ELEMENT, "rests", out, 0, on);
                x.refused(NO_ELEMENT, "rests", 0, out, on);
                x.refused(NO_ELEMENT, "rests", out, out, on);
            }
        }
        x.refused(NO_ELEMENT, "rests", 3, 2, true);
        x.refused(NO_ELEMENT, "rests", 4, 1, true);
        x.refused(NO_ELEMENT, "rests", -1, 0, false);
        x.refused(NO_ELEMENT, "rests", 0, -1, false);
    }

    private static void restsOn() {
        Run x = rich("restsOn: claim or other");
        refusesPairs(x, "restsOn");
        x.dueRow("1 3 2", "ring");
    }

    private static void ring() {
        Run x = rich("ring: k is below 0");
        x.refused(NO_ELEMENT, "ring", -1);
        x.refused(NO_ELEMENT, "ring", -2);
        x.refused(NO_ELEMENT, "ring", Run.LEAST);
    }

    private static void lift() {
        Run x = rich("lift: claim or other");
        refusesPairs(x, "lift");
        x.due(2, "count", 4);
    }

    private static void refusesPairs(Run x, String name) {
        for (int out : new int[] {-1, 4, 24, Run.LEAST, Run.GREATEST}) {
            for (int claim = 0; claim < 4; claim++) {
                x.refused(NO_ELEMENT, name, out, claim);
                x.refused(NO_ELEMENT, name, claim, out);
            }
            // There is no ring, and nothing to lift, where there is no claim.
            x.refused(NO_ELEMENT, name, out, out);
        }
    }

    private static void withdraw() {
        Run x = rich("withdraw: source, then day");
        for (int out : OUTSIDE) {
            x.refused(NO_ELEMENT, "withdraw", out, 5);
            x.refused(NO_ELEMENT, "withdraw", out, Run.NONE);
            x.refused(NO_ELEMENT, "withdraw", out, out);
            x.refused(NO_ELEMENT, "withdraw", 2, out);
            x.refused(ARGUMENT, "withdraw", 0, out);
            x.refused(ARGUMENT, "withdraw", 1, out);
        }
        x.due(40, "withdraw", 1, 0);
    }

    private static void opinion() {
        Run x = rich("opinion: person or claim, then v, day or rank");
        for (int out : OUTSIDE) {
            x.refused(NO_ELEMENT, "opinion", out, 0, 9, 10, 9);
            x.refused(NO_ELEMENT, "opinion", 0, out, 9, 10, 9);
            x.refused(NO_ELEMENT, "opinion", out, 0, out, 10, 9);
            x.refused(NO_ELEMENT, "opinion", 0, out, 9, out, 9);
            x.refused(NO_ELEMENT, "opinion", 0, out, 9, 10, out);
            x.refused(NO_ELEMENT, "opinion", out, out, out, out, out);
            // In place of the first one, but for what is wrong with it.
            x.refused(ARGUMENT, "opinion", 0, 0, out, 10, 9);
            x.refused(ARGUMENT, "opinion", 0, 0, 9, out, 9);
            x.refused(ARGUMENT, "opinion", 0, 0, 9, 10, out);
            x.refused(ARGUMENT, "opinion", 0, 0, out, out, out);
        }
        x.refused(NO_ELEMENT, "opinion", 32, 0, 9, 10, 9);
        x.refused(NO_ELEMENT, "opinion", -1, 0, 9, 10, 9);
        x.refused(NO_ELEMENT, "opinion", 0, 4, 9, 10, 9);
        x.refused(NO_ELEMENT, "opinion", 0, -1, 9, 10, 9);
    }

    private static void opinionOfThreeHundred() {
        Run x = new Run("opinion: the others before IllegalStateException").with(1, 3);
        for (int i = 0; i < 300; i++) {
            x.go("opinion", i % 5, i % 3, i % 4, i / 15, i % 10);
        }
        x.refused(STATE, "opinion", 31, 0, 1, 0, 0);
        x.refused(STATE, "opinion", 0, 0, 99, 100000, 9);
        for (int out : OUTSIDE) {
            x.refused(NO_ELEMENT, "opinion", out, 0, 1, 0, 0);
            x.refused(NO_ELEMENT, "opinion", 31, out, 1, 0, 0);
            x.refused(NO_ELEMENT, "opinion", out, out, out, out, out);
            x.refused(ARGUMENT, "opinion", 31, 0, out, 0, 0);
            x.refused(ARGUMENT, "opinion", 31, 0, 1, out, 0);
            x.refused(ARGUMENT, "opinion", 31, 0, 1, 0, out);
            x.refused(ARGUMENT, "opinion", 0, 0, out, 0, 0);
            x.refused(ARGUMENT, "opinion", 0, 0, 1, 0, out);
        }
        x.due(100, "opinion", 0, 0, 99, 0, 9);
    }

    private static void rule() {
        Run x = rich("rule: claim, then kind");
        for (int out : OUTSIDE) {
            x.refused(NO_ELEMENT, "rule", out, 0);
            x.refused(NO_ELEMENT, "rule", out, out);
            x.refused(NO_ELEMENT, "rule", 4, out);
            x.refused(ARGUMENT, "rule", 1, out);
        }
        x.refused(NO_ELEMENT, "rule", 4, 3);
        x.refused(ARGUMENT, "rule", 2, 3);
        x.refused(ARGUMENT, "rule", 2, -1);
        x.due(2, "rule", 2, 0);
    }

    private static void agreed() {
        refusesClaimThenDay("agreed");
    }

    private static void held() {
        refusesClaimThenDay("held");
    }

    private static void refusesClaimThenDay(String name) {
        Run x = rich(name + ": claim, then day");
        for (int out : OUTSIDE) {
            x.refused(NO_ELEMENT, name, out, 20);
            x.refused(NO_ELEMENT, name, out, out);
            x.refused(NO_ELEMENT, name, 4, out);
            x.refused(ARGUMENT, name, 0, out);
        }
        x.refused(NO_ELEMENT, name, -1, -1);
        x.refused(NO_ELEMENT, name, 4, 100000);
        x.refused(ARGUMENT, name, 3, -1);
    }

    private static void dissent() {
        Run x = rich("dissent: claim or k, then day");
        refusesNumberOrPlaceThenDay(x, "dissent", 4);
    }

    private static void opened() {
        Run x = rich("opened: source or k, then day");
        refusesNumberOrPlaceThenDay(x, "opened", 2);
    }

    private static void refusesNumberOrPlaceThenDay(Run x, String name, int made) {
        for (int out : OUTSIDE) {
            x.refused(NO_ELEMENT, name, out, 20, 0);
            x.refused(NO_ELEMENT, name, out, out, 0);
            x.refused(NO_ELEMENT, name, made, out, 0);
            x.refused(NO_ELEMENT, name, 0, out, -1);
            x.refused(NO_ELEMENT, name, out, out, -1);
            x.refused(ARGUMENT, name, 0, out, 0);
            x.refused(ARGUMENT, name, made - 1, out, Run.GREATEST);
        }
        x.refused(NO_ELEMENT, name, -1, 20, 0);
        x.refused(NO_ELEMENT, name, 0, 20, -1);
        x.refused(NO_ELEMENT, name, 0, 20, Run.LEAST);
        x.refused(NO_ELEMENT, name, made, 20, Run.GREATEST);
        x.refused(ARGUMENT, name, 0, -1, 0);
    }

    private static void quote() {
        Run x = rich("quote: source, or at");
        for (int out : OUTSIDE) {
            x.refused(NO_ELEMENT, "quote", out, 0);
            x.refused(NO_ELEMENT, "quote", 0, out);
            x.refused(NO_ELEMENT, "quote", out, out);
        }
        x.refused(NO_ELEMENT, "quote", 2, 0);
        x.refused(NO_ELEMENT, "quote", -1, 0);
        x.refused(NO_ELEMENT, "quote", 1, -1);
        x.refused(NO_ELEMENT, "quote", 1, 4);
        x.due(0, "quote", 1, 0);
    }

    private static void form() {
        Run x = rich("form: there is no such form");
        for (int form : new int[] {-2, -1, 4, 24, Run.LEAST, Run.GREATEST}) {
            x.refused(NO_ELEMENT, "form", form);
        }
        x.due(2, "form", 0);
    }

    private static void cite() {
        Run x = rich("cite: source, form or sign");
        for (int out : OUTSIDE) {
            for (int i : new int[] {-1, 0, out}) {
                x.refused(NO_ELEMENT, "cite", out, 0, i);
                x.refused(NO_ELEMENT, "cite", 0, out, i);
                x.refused(NO_ELEMENT, "cite", out, out, i);
            }
            x.refused(NO_ELEMENT, "cite", 0, 0, out);
        }
        x.refused(NO_ELEMENT, "cite", -1, 0, -1);
        x.refused(NO_ELEMENT, "cite", 0, -1, -1);
        x.refused(NO_ELEMENT, "cite", 2, 0, -1);
        x.refused(NO_ELEMENT, "cite", 0, 4, -1);
        x.dueCitation("0d10", 0, 0);
        x.dueCitation("1e20", 1, 0);
    }

    private static void count() {
        Run x = rich("count: none of these");
        for (int what : new int[] {-2, -1, 5, 6, Run.LEAST, Run.GREATEST}) {
            x.refused(ARGUMENT, "count", what);
        }
    }

    /** The order holds too where there is nothing yet. */
    private static void newObject() {
        Run x = new Run("a new object refuses");
        x.refused(NO_ELEMENT, "withdraw", 0, -2);
        x.refused(NO_ELEMENT, "opinion", 0, 0, 100, -1, 10);
        x.refused(NO_ELEMENT, "rule", 0, 3);
        x.refused(NO_ELEMENT, "agreed", 0, -1);
        x.refused(NO_ELEMENT, "dissent", 0, -1, -1);
        x.refused(NO_ELEMENT, "held", 0, 100001);
        x.refused(NO_ELEMENT, "opened", 0, -1, 0);
        x.refused(NO_ELEMENT, "quote", 0, 0);
        x.refused(NO_ELEMENT, "cite", 0, 0, -1);
        x.refused(NO_ELEMENT, "restsOn", 0, 0);
        x.refused(NO_ELEMENT, "lift", 0, 0);
        x.refused(NO_ELEMENT, "ring", -1);
        x.refused(NO_ELEMENT, "form", 4);
        x.refused(ARGUMENT, "unit", 0);
        x.refused(ARGUMENT, "source", 26, 0);
        x.refused(ARGUMENT, "count", 5);
    }
}
