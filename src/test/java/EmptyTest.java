/** What is empty: a new object, pad, texts, forms, opinions, rings, what a claim rests on. */
final class EmptyTest {
    private static final String NO_ELEMENT = Run.NO_ELEMENT;
    private static final int NONE = Run.NONE;

    public static void main(String[] args) {
        noSources();
        noClaims();
        newObjectCountsNothing();
        newObjectBeginsWithZero();
        emptyPad();
        emptyPadStandsEverywhere();
        emptyText();
        formsAreEmptyAtFirst();
        formBecomesEmptyAgain();
        noOpinions();
        noOpinionByThen();
        noOpinionOfThisClaim();
        noRingTold();
        restsOnNothing();
        nothingIsOpened();
        notWithdrawnAtFirst();
        mostIsTheRuleAtFirst();
        nothingToLift();
        Due.end();
    }

    private static void noSources() {
        Run x = new Run("No sources (with a claim)").with(0, 1);
        for (int source : new int[] {-1, 0, 23, Run.LEAST, Run.GREATEST}) {
            x.refused(NO_ELEMENT, "rests", 0, source, true);
            x.refused(NO_ELEMENT, "rests", 0, source, false);
            x.refused(NO_ELEMENT, "withdraw", source, 0);
            x.refused(NO_ELEMENT, "withdraw", source, NONE);
            x.refused(NO_ELEMENT, "opened", source, 0, 0);
            x.refused(NO_ELEMENT, "quote", source, 0);
            x.refused(NO_ELEMENT, "cite", source, 0, -1);
        }
    }

    private static void noClaims() {
        Run x = new Run("No claims (with a source)").with(1, 0);
        for (int claim : new int[] {-1, 0, 23, Run.LEAST, Run.GREATEST}) {
            x.refused(NO_ELEMENT, "rests", claim, 0, true);
            x.refused(NO_ELEMENT, "rests", claim, 0, false);
            x.refused(NO_ELEMENT, "restsOn", claim, claim);
            x.refused(NO_ELEMENT, "lift", claim, claim);
            x.refused(NO_ELEMENT, "opinion", 0, claim, 0, 0, 0);
            x.refused(NO_ELEMENT, "rule", claim, 0);
            x.refused(NO_ELEMENT, "agreed", claim, 0);
            x.refused(NO_ELEMENT, "dissent", claim, 0, 0);
            x.refused(NO_ELEMENT, "held", claim, 0);
        }
        x.dueRow("", "opened", 0, 0);
    }

    private static void newObjectCountsNothing() {
        Run x = new Run("No sources, claims; an empty pad");
        for (int what = 0; what <= 4; what++) {
            x.due(0, "count", what);
        }
        x.due(0, "clear");
    }

    private static void newObjectBeginsWithZero() {
        Run x = new Run("No sources, claims; an empty pad: the first of each");
        x.due(0, "source", 0, 0);
        x.due(0, "claim");
        x.due(1, "unit", 1);
        Run y = new Run("No sources, claims; an empty pad: a form first");
        y.due(0, "form", 3);
        y.due(0, "claim");
        y.due(0, "source", 25, 100000);
        Run z = new Run("No sources, claims: both refused");
        z.refused(NO_ELEMENT, "rests", 0, 0, true);
        z.refused(NO_ELEMENT, "rests", 0, 0, false);
    }

    private static void emptyPad() {
        Run x = new Run("The pad is empty: how many signs it had");
        x.due(0, "clear");
        x.write("ab").due(2, "clear");
        x.due(0, "clear");
        x.due(0, "count", 0);
        x.due(1, "unit", 99);
        x.due(0, "source", 0, 0);
        x.due(0, "count", 0);
        x.due(0, "clear");
        x.write("de").due(2, "form", 0);
        x.due(0, "count", 0);
        x.due(0, "clear");
        x.dueCitation("de", 0, 0);
    }

    private static void emptyPadStandsEverywhere() {
        Run x = new Run("Whether the pad stands there: an empty one").write("abc");
        x.go("source", 0, 0);
        x.go("source", 0, 0);
        for (int at = 0; at <= 3; at++) {
            x.due(0, "quote", 0, at);
        }
        x.due(0, "quote", 1, 0);
        x.refused(NO_ELEMENT, "quote", 0, 4);
        x.refused(NO_ELEMENT, "quote", 1, 1);
    }

    private static void emptyText() {
        Run x = new Run("the pad as its text: an empty one").write("ab");
        x.go("clear");
        x.due(0, "source", 0, 0);
        x.write("a").due(1, "quote", 0, 0);
        x.write("b").due(1, "quote", 0, 0);
        x.refused(NO_ELEMENT, "quote", 0, 1);
        x.refused(NO_ELEMENT, "quote", 0, -1);
        x.due(2, "count", 0);
    }

    private static void formsAreEmptyAtFirst() {
        Run x = new Run("FORMS are texts, empty at first").write("text");
        x.go("source", 7, 77);
        for (int form = 0; form <= 3; form++) {
            x.dueCitation("", 0, form);
            x.refused(NO_ELEMENT, "cite", 0, form, 1);
            x.refused(NO_ELEMENT, "cite", 0, form, -2);
        }
    }

    private static void formBecomesEmptyAgain() {
        Run x = new Run("The pad becomes form k: an empty pad").with(1, 0).write("ab");
        x.due(2, "form", 2);
        x.dueCitation("ab", 0, 2);
        x.due(0, "form", 2);
        x.dueCitation("", 0, 2);
    }

    private static void noOpinions() {
        Run x = new Run("NONE (open) if no opinion is known").with(1, 2);
        x.go("rests", 0, 0, true);
        for (int rule = 0; rule <= 2; rule++) {
            x.go("rule", 0, rule);
            for (int day : new int[] {0, 1, 100000}) {
                x.due(NONE, "agreed", 0, day);
                x.dueRow("", "dissent", 0, day);
                x.due(NONE, "dissent", 0, day, Run.GREATEST);
                x.due(NONE, "agreed", 1, day);
                x.dueRow("", "dissent", 1, day);
            }
        }
        x.due(0, "count", 3);
    }

    private static void noOpinionByThen() {
        Run x = new Run("KNOWN on a day: none before the first").with(1, 1);
        x.go("rests", 0, 0, true);
        x.due(1, "opinion", 0, 0, 0, 100000, 0);
        for (int rule = 0; rule <= 2; rule++) {
            x.go("rule", 0, rule);
            x.due(NONE, "agreed", 0, 0);
            x.due(NONE, "agreed", 0, 99999);
            x.dueRow("", "dissent", 0, 99999);
            x.due(0, "agreed", 0, 100000);
        }
    }

    private static void noOpinionOfThisClaim() {
        Run x = new Run("A person says of a claim: none of the other one").with(1, 2);
        x.go("rests", 0, 0, true);
        x.go("rests", 1, 0, true);
        x.due(1, "opinion", 5, 1, 6, 0, 0);
        x.due(NONE, "agreed", 0, 100000);
        x.dueRow("", "dissent", 0, 100000);
        x.due(6, "agreed", 1, 0);
    }

    private static void noRingTold() {
        Run x = new Run("the ring that was told latest: none yet").with(0, 3);
        x.dueRow("", "ring");
        x.due(NONE, "ring", 24);
        x.due(NONE, "ring", Run.GREATEST);
        x.refused(NO_ELEMENT, "ring", -1);
        x.refused(NO_ELEMENT, "ring", Run.LEAST);
        x.due(1, "restsOn", 0, 1);
        x.due(0, "restsOn", 0, 1);
        x.refused(NO_ELEMENT, "restsOn", 3, 3);
        x.refused(NO_ELEMENT, "restsOn", 0, 3);
        x.due(true, "lift", 0, 1);
        x.due(1, "restsOn", 1, 0);
        x.dueRow("", "ring");
    }

    private static void restsOnNothing() {
        Run x = new Run("HELD if it rests on a source or a held claim: on nothing").with(2, 3);
        x.go("restsOn", 0, 1);
        for (int claim = 0; claim <= 2; claim++) {
            x.due(false, "held", claim, 0);
            x.due(false, "held", claim, 100000);
        }
        x.due(false, "rests", 2, 0, false);
        x.due(true, "rests", 2, 0, true);
        x.due(true, "rests", 2, 0, false);
        x.due(false, "held", 2, 0);
    }

    private static void nothingIsOpened() {
        Run x = new Run("The k-th claim that would not be held: none").with(2, 2);
        x.dueRow("", "opened", 0, 0);
        x.go("rests", 1, 1, true);
        x.dueRow("", "opened", 0, 100000);
        x.dueRow("1", "opened", 1, 100000);
    }

    private static void notWithdrawnAtFirst() {
        Run x = new Run("from when it was: NONE at first").with(3, 1);
        x.go("rests", 0, 0, true);
        x.due(true, "held", 0, 100000);
        x.due(NONE, "withdraw", 0, NONE);
        x.due(NONE, "withdraw", 1, 0);
        x.due(NONE, "withdraw", 2, 100000);
        x.due(0, "withdraw", 1, NONE);
        x.due(true, "held", 0, 100000);
    }

    private static void mostIsTheRuleAtFirst() {
        Run x = new Run("by its RULE: 0 (at first) MOST").with(1, 24);
        x.go("rests", 0, 0, true);
        x.go("opinion", 0, 0, 1, 0, 0);
        x.go("opinion", 1, 0, 1, 0, 0);
        x.go("opinion", 2, 0, 2, 0, 9);
        x.due(1, "agreed", 0, 0);
        for (int claim = 0; claim < 24; claim++) {
            x.due(0, "rule", claim, 0);
        }
    }

    private static void nothingToLift() {
        Run x = new Run("whether it did: it never did").with(1, 3);
        x.go("rests", 0, 0, true);
        for (int claim = 0; claim <= 2; claim++) {
            for (int other = 0; other <= 2; other++) {
                x.due(false, "lift", claim, other);
            }
        }
        x.due(true, "held", 0, 0);
        x.due(0, "count", 4);
    }
}
