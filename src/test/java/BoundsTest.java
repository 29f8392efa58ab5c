/**
 * The bounds that 'Terms' and the promises name: the last allowed and the first refused number on
 * both sides, and the least and the greatest int, for every argument that a bound holds for.
 */
final class BoundsTest {
    private static final String NO_ELEMENT = Run.NO_ELEMENT;
    private static final String ARGUMENT = Run.ARGUMENT;

    public static void main(String[] args) {
        days();
        signs();
        kinds();
        sourcesOfAFullObject();
        sourcesOfAnObjectWithThree();
        claimsOfAFullObject();
        claimsOfAnObjectWithThree();
        sourcesAndClaimsAreCountedApart();
        persons();
        values();
        ranks();
        rules();
        forms();
        placesOfARing();
        placesAmongDissenters();
        placesAmongOpened();
        placesOfAText();
        placesOfAFullText();
        signsOfACitation();
        whatIsCounted();
        Due.end();
    }

    private static void days() {
        Run x = new Run("DAYS are 0 .. 100000").with(1, 1);
        x.bound(0, 100000, ARGUMENT, 1, "source", 0, 0);
        x.bound(0, 100000, ARGUMENT, 3, "opinion", 0, 0, 0, 0, 0);
        x.bound(0, 100000, ARGUMENT, 1, "agreed", 0, 0);
        x.bound(0, 100000, ARGUMENT, 1, "dissent", 0, 0, 0);
        x.bound(0, 100000, ARGUMENT, 1, "held", 0, 0);
        x.bound(0, 100000, ARGUMENT, 1, "opened", 0, 0, 0);
        // NONE, which is -1, stands for no day here.
        x.bound(-1, 100000, ARGUMENT, 1, "withdraw", 0, 0);
        x.due(100000, "withdraw", 0, 0);
        x.due(0, "withdraw", 0, -1);
        x.due(-1, "withdraw", 0, 100000);
    }

    private static void signs() {
        Run x = new Run("SIGNS are 1 .. 127");
        x.bound(1, 127, ARGUMENT, 0, "unit", 1);
        x.refused(ARGUMENT, "unit", -1);
        x.due(2, "count", 0);
        x.go("form", 0);
        x.go("source", 0, 0);
        x.dueCitation("\u0001\u007f", 0, 0);
    }

    private static void kinds() {
        Run x = new Run("each of a KIND 0 .. 25");
        x.bound(0, 25, ARGUMENT, 0, "source", 0, 0);
        x.due(2, "count", 1);
        x.write("$").go("form", 0);
        x.dueCitation("a", 0, 0);
        x.dueCitation("z", 1, 0);
    }

    private static void sourcesOfAFullObject() {
        Run x = new Run("SOURCES are 0 .. 23").with(24, 1);
        boundsOfSources(x, 23);
    }

    private static void sourcesOfAnObjectWithThree() {
        Run x = new Run("there is no such source: 3 of 3").with(3, 1);
        boundsOfSources(x, 2);
        x.refused(NO_ELEMENT, "withdraw", 23, 0);
        x.due(3, "source", 0, 0);
        x.due(Run.NONE, "withdraw", 3, 0);
    }

    private static void boundsOfSources(Run x, int last) {
        x.bound(0, last, NO_ELEMENT, 1, "rests", 0, 0, true);
        x.bound(0, last, NO_ELEMENT, 1, "rests", 0, 0, false);
        x.bound(0, last, NO_ELEMENT, 0, "withdraw", 0, 0);
        x.bound(0, last, NO_ELEMENT, 0, "opened", 0, 0, 0);
        x.bound(0, last, NO_ELEMENT, 0, "quote", 0, 0);
        x.bound(0, last, NO_ELEMENT, 0, "cite", 0, 0, -1);
    }

    private static void claimsOfAFullObject() {
        Run x = new Run("CLAIMS are 0 .. 23").with(1, 24);
        boundsOfClaims(x, 23);
    }

    private static void claimsOfAnObjectWithThree() {
        Run x = new Run("there is no such claim: 3 of 3").with(1, 3);
        boundsOfClaims(x, 2);
        x.refused(NO_ELEMENT, "held", 23, 0);
        x.due(3, "claim");
        x.due(false, "held", 3, 0);
    }

    private static void boundsOfClaims(Run x, int last) {
        x.bound(0, last, NO_ELEMENT, 0, "rests", 0, 0, true);
        x.bound(0, last, NO_ELEMENT, 0, "rests", 0, 0, false);
        x.bound(0, last, NO_ELEMENT, 0, "restsOn", 0, 1);
        x.bound(0, last, NO_ELEMENT, 1, "restsOn", 1, 0);
        x.bound(0, last, NO_ELEMENT, 0, "lift", 0, 1);
        x.bound(0, last, NO_ELEMENT, 1, "lift", 1, 0);
        x.bound(0, last, NO_ELEMENT, 1, "opinion", 0, 0, 0, 0, 0);
        x.bound(0, last, NO_ELEMENT, 0, "rule", 0, 0);
        x.bound(0, last, NO_ELEMENT, 0, "agreed", 0, 0);
        x.bound(0, last, NO_ELEMENT, 0, "dissent", 0, 0, 0);
        x.bound(0, last, NO_ELEMENT, 0, "held", 0, 0);
    }

    private static void sourcesAndClaimsAreCountedApart() {
        Run x = new Run("a claim's number is no source's").with(0, 2);
        x.refused(NO_ELEMENT, "rests", 0, 0, true);
        x.refused(NO_ELEMENT, "withdraw", 0, 0);
        x.refused(NO_ELEMENT, "opened", 1, 0, 0);
        x.refused(NO_ELEMENT, "quote", 0, 0);
        x.refused(NO_ELEMENT, "cite", 1, 0, -1);
        Run y = new Run("a source's number is no claim's").with(2, 0);
        y.refused(NO_ELEMENT, "rests", 0, 0, true);
        y.refused(NO_ELEMENT, "restsOn", 0, 1);
        y.refused(NO_ELEMENT, "lift", 0, 1);
        y.refused(NO_ELEMENT, "opinion", 0, 1, 0, 0, 0);
        y.refused(NO_ELEMENT, "rule", 0, 0);
        y.refused(NO_ELEMENT, "agreed", 1, 0);
        y.refused(NO_ELEMENT, "dissent", 0, 0, 0);
        y.refused(NO_ELEMENT, "held", 1, 0);
    }

    private static void persons() {
        Run x = new Run("a person 0 .. 31").with(0, 1);
        x.bound(0, 31, NO_ELEMENT, 0, "opinion", 0, 0, 0, 0, 0);
        x.dueRow("0 31", "dissent", 0, 0);
    }

    private static void values() {
        Run x = new Run("a VALUE 0 .. 99").with(1, 1);
        x.go("rests", 0, 0, true);
        x.bound(0, 99, ARGUMENT, 2, "opinion", 0, 0, 0, 0, 0);
        // The two answers that are no values are no values either.
        x.refused(ARGUMENT, "opinion", 0, 0, Run.NONE, 0, 0);
        x.refused(ARGUMENT, "opinion", 0, 0, Run.TIE, 0, 0);
        x.due(99, "agreed", 0, 0);
        x.go("opinion", 0, 0, 0, 0, 0);
        x.due(0, "agreed", 0, 0);
        x.dueRow("", "dissent", 0, 0);
    }

    private static void ranks() {
        Run x = new Run("a RANK 0 .. 9").with(1, 1);
        x.go("rests", 0, 0, true);
        x.go("rule", 0, 1);
        x.go("opinion", 1, 0, 50, 0, 8);
        x.bound(0, 9, ARGUMENT, 4, "opinion", 0, 0, 7, 0, 0);
        x.due(7, "agreed", 0, 0);
        x.go("opinion", 0, 0, 7, 0, 0);
        x.due(50, "agreed", 0, 0);
        x.go("opinion", 1, 0, 50, 0, 0);
        x.due(Run.TIE, "agreed", 0, 0);
    }

    private static void rules() {
        Run x = new Run("IllegalArgumentException: kind is not 0 .. 2").with(0, 1);
        x.bound(0, 2, ARGUMENT, 1, "rule", 0, 0);
        x.due(2, "rule", 0, 0);
    }

    private static void forms() {
        Run x = new Run("FORMS are 0 .. 3").with(1, 0);
        x.bound(0, 3, NO_ELEMENT, 0, "form", 0);
        x.bound(0, 3, NO_ELEMENT, 1, "cite", 0, 0, -1);
        for (int form = 0; form <= 3; form++) {
            x.write("abcd".substring(form)).due(4 - form, "form", form);
        }
        x.dueCitation("abcd", 0, 0);
        x.dueCitation("bcd", 0, 1);
        x.dueCitation("cd", 0, 2);
        x.dueCitation("d", 0, 3);
    }

    private static void placesOfARing() {
        Run x = new Run("NONE behind its end. NoSuchElementException: k is below 0").with(0, 2);
        x.go("restsOn", 0, 1);
        x.due(Run.NONE, "restsOn", 1, 0);
        x.refused(NO_ELEMENT, "ring", -1);
        x.refused(NO_ELEMENT, "ring", Run.LEAST);
        x.dueRow("1 0", "ring");
        x.due(Run.NONE, "ring", 24);
        x.due(Run.NONE, "ring", Run.GREATEST);
    }

    private static void placesAmongDissenters() {
        Run x = new Run("NoSuchElementException: claim, or k is below 0 (dissent)").with(0, 1);
        x.go("opinion", 4, 0, 0, 0, 0);
        x.refused(NO_ELEMENT, "dissent", 0, 0, -1);
        x.refused(NO_ELEMENT, "dissent", 0, 0, Run.LEAST);
        x.dueRow("4", "dissent", 0, 0);
        x.due(Run.NONE, "dissent", 0, 0, 32);
        x.due(Run.NONE, "dissent", 0, 0, Run.GREATEST);
    }

    private static void placesAmongOpened() {
        Run x = new Run("NoSuchElementException: source, or k is below 0 (opened)").with(1, 2);
        x.go("rests", 1, 0, true);
        x.refused(NO_ELEMENT, "opened", 0, 0, -1);
        x.refused(NO_ELEMENT, "opened", 0, 0, Run.LEAST);
        x.dueRow("1", "opened", 0, 0);
        x.due(Run.NONE, "opened", 0, 0, 24);
        x.due(Run.NONE, "opened", 0, 0, Run.GREATEST);
    }

    private static void placesOfAText() {
        Run x = new Run("at is not 0 .. the text's length").write("abc");
        x.go("source", 0, 0);
        x.go("source", 0, 0);
        x.bound(0, 3, NO_ELEMENT, 1, "quote", 0, 0);
        x.bound(0, 0, NO_ELEMENT, 1, "quote", 1, 0);
        // Also with a pad that stands nowhere: the place is looked at first.
        x.write("zzzz").bound(0, 3, NO_ELEMENT, 1, "quote", 0, 0);
    }

    private static void placesOfAFullText() {
        Run x = new Run("at is not 0 .. the text's length: 60").write("a".repeat(60));
        x.go("source", 0, 0);
        x.bound(0, 60, NO_ELEMENT, 1, "quote", 0, 0);
        x.go("unit", 97);
        x.due(0, "quote", 0, 59);
        x.due(1, "quote", 0, 60);
    }

    private static void signsOfACitation() {
        Run x = new Run("Sign i of a citation; i = -1: its length").with(1, 0).write("x@y");
        x.go("form", 1);
        x.bound(-1, 2, NO_ELEMENT, 2, "cite", 0, 1, 0);
        x.dueCitation("x0y", 0, 1);
        x.bound(-1, -1, NO_ELEMENT, 2, "cite", 0, 0, 0);
    }

    private static void whatIsCounted() {
        Run x = new Run("IllegalArgumentException: none of these (count)").with(1, 1);
        x.bound(0, 4, ARGUMENT, 0, "count", 0);
    }
}
