/** What is full: 60 signs, 24 sources, 24 claims, 300 opinions, rings and rows of all claims. */
final class FullTest {
    private static final String NO_ELEMENT = Run.NO_ELEMENT;
    private static final String ARGUMENT = Run.ARGUMENT;
    private static final String STATE = Run.STATE;
    private static final int NONE = Run.NONE;
    private static final String SIXTY = "0123456789".repeat(6);

    public static void main(String[] args) {
        padIsFull();
        fullPadMakesRoom();
        fullTexts();
        longestCitations();
        sourcesAreFull();
        claimsAreFull();
        fullOfBoth();
        claimOnAllSources();
        allPairs();
        ringOfAll();
        rowOfAllIsHeldAndOpened();
        opinionsOfOneClaimAreFull();
        opinionsOfAllClaimsAreFull();
        opinionInPlaceOfOne();
        opinionInPlaceOfTheFirstAndTheLast();
        allPersonsDissent();
        allPersonsAgree();
        lastOfFiveHundredTwelveCalls();
        Due.end();
    }

    private static void padIsFull() {
        Run x = new Run("THE PAD is a row of at most 60. IllegalStateException: there are 60");
        for (int sign = 1; sign <= 60; sign++) {
            x.due(sign, "unit", sign);
        }
        x.refused(STATE, "unit", 1);
        x.refused(STATE, "unit", 127);
        x.refused(ARGUMENT, "unit", 0);
        x.refused(ARGUMENT, "unit", 128);
        x.refused(ARGUMENT, "unit", Run.LEAST);
        x.refused(ARGUMENT, "unit", Run.GREATEST);
        x.due(60, "count", 0);
        x.due(60, "clear");
    }

    private static void fullPadMakesRoom() {
        Run x = new Run("The pad is empty: a full one").write(SIXTY);
        x.due(60, "clear");
        x.due(1, "unit", 65);
        x.write(SIXTY.substring(1)).due(60, "form", 0);
        x.due(1, "unit", 66);
        x.write(SIXTY.substring(1)).due(0, "source", 0, 0);
        x.due(1, "unit", 67);
        x.write(SIXTY.substring(1));
        x.refused(STATE, "unit", 1);
        x.due(1, "quote", 0, 0);
        x.dueCitation("A" + SIXTY.substring(1), 0, 0);
    }

    private static void fullTexts() {
        Run x = new Run("with the pad as its text: 60 signs").write(SIXTY);
        x.due(0, "source", 0, 0);
        x.write(SIXTY).due(1, "source", 0, 0);
        x.write(SIXTY).due(60, "form", 0);
        x.write(SIXTY).due(0, "quote", 0, 0);
        x.due(0, "quote", 1, 0);
        // What stands behind a text's end is no sign of another text.
        x.due(51, "quote", 0, 10);
        x.due(1, "quote", 0, 60);
        x.refused(NO_ELEMENT, "quote", 0, 61);
        x.due(60, "count", 0);
        x.dueCitation(SIXTY, 1, 0);
    }

    private static void longestCitations() {
        Run x = new Run("numbers by their decimal digits: the longest").with(23, 0);
        x.go("source", 25, 100000);
        x.write("@".repeat(60)).due(60, "form", 0);
        x.write("#".repeat(60)).due(60, "form", 1);
        x.due(360, "cite", 23, 0, -1);
        x.due(120, "cite", 23, 1, -1);
        x.due(60, "cite", 0, 0, -1);
        x.due('1', "cite", 23, 0, 354);
        x.due('0', "cite", 23, 0, 359);
        x.refused(NO_ELEMENT, "cite", 23, 0, 360);
        x.due('2', "cite", 23, 1, 118);
        x.due('3', "cite", 23, 1, 119);
        x.refused(NO_ELEMENT, "cite", 23, 1, 120);
    }

    private static void sourcesAreFull() {
        Run x = new Run("IllegalStateException: there are 24 (source)");
        for (int number = 0; number < 24; number++) {
            x.write("text").due(number, "source", number + 2, number);
        }
        x.refused(STATE, "source", 0, 0);
        x.write("kept").refused(STATE, "source", 25, 100000);
        x.refused(ARGUMENT, "source", 26, 0);
        x.refused(ARGUMENT, "source", -1, 0);
        x.refused(ARGUMENT, "source", 0, 100001);
        x.refused(ARGUMENT, "source", 0, -1);
        x.refused(ARGUMENT, "source", Run.LEAST, Run.GREATEST);
        x.due(24, "count", 1);
        x.due(4, "clear");
        x.write("text").due(0, "quote", 0, 0);
        x.due(0, "quote", 23, 0);
        x.due(0, "claim");
    }

    private static void claimsAreFull() {
        Run x = new Run("IllegalStateException: there are 24 (claim)");
        for (int number = 0; number < 24; number++) {
            x.due(number, "claim");
        }
        x.refused(STATE, "claim");
        x.refused(STATE, "claim");
        x.due(24, "count", 2);
        x.due(0, "source", 0, 0);
    }

    private static void fullOfBoth() {
        Run x = new Run("there are 24 of both, and 60 signs").with(24, 24).write(SIXTY);
        x.refused(STATE, "claim");
        x.refused(STATE, "source", 0, 0);
        x.refused(STATE, "unit", 1);
        x.due(true, "rests", 23, 23, true);
        x.due(true, "held", 23, 0);
        x.refused(NO_ELEMENT, "rests", 24, 23, true);
        x.refused(NO_ELEMENT, "rests", 23, 24, true);
        x.due(60, "form", 3);
        x.due(24, "count", 1);
        x.due(24, "count", 2);
    }

    private static void claimOnAllSources() {
        Run x = new Run("a claim may REST on sources: on all 24").with(24, 24);
        for (int source = 0; source < 24; source++) {
            x.due(true, "rests", 23, source, true);
        }
        for (int source = 0; source < 24; source++) {
            x.due(false, "rests", 23, source, true);
            x.dueRow("", "opened", source, 0);
        }
        for (int source = 0; source < 23; source++) {
            x.due(true, "rests", 23, source, false);
            x.due(true, "held", 23, 0);
        }
        x.dueRow("23", "opened", 23, 0);
        x.due(true, "rests", 23, 23, false);
        x.due(false, "held", 23, 0);
    }

    private static void allPairs() {
        Run x = new Run("4 pairs of claims of which one rests on the other: all").with(0, 24);
        for (int claim = 0; claim < 24; claim++) {
            for (int other = claim + 1; other < 24; other++) {
                x.due(1, "restsOn", claim, other);
            }
        }
        x.due(276, "count", 4);
        x.due(0, "restsOn", 0, 23);
        for (int claim = 0; claim < 24; claim++) {
            x.due(NONE, "restsOn", 23, claim);
            x.dueRow(claim == 23 ? "23" : "23 " + claim, "ring");
        }
        x.due(276, "count", 4);
        x.due(true, "lift", 0, 23);
        x.due(275, "count", 4);
    }

    private static void ringOfAll() {
        Run x = new Run("the shortest one is told: of all 24").with(0, 24);
        StringBuilder ring = new StringBuilder("23");
        for (int claim = 0; claim < 23; claim++) {
            x.due(1, "restsOn", claim, claim + 1);
            ring.append(' ').append(claim);
        }
        x.due(NONE, "restsOn", 23, 0);
        x.dueRow(ring.toString(), "ring");
        x.due(23, "count", 4);
        x.due(1, "restsOn", 0, 22);
        x.due(NONE, "restsOn", 23, 0);
        x.dueRow("23 0 22", "ring");
    }

    private static void rowOfAllIsHeldAndOpened() {
        Run x = new Run("or on a claim that is held on that day: over all 24").with(1, 24);
        StringBuilder row = new StringBuilder();
        for (int claim = 23; claim > 0; claim--) {
            x.go("restsOn", claim, claim - 1);
        }
        x.go("rests", 0, 0, true);
        for (int claim = 0; claim < 24; claim++) {
            x.due(true, "held", claim, 0);
            row.append(claim == 0 ? "" : " ").append(claim);
        }
        x.dueRow(row.toString(), "opened", 0, 0);
        x.go("withdraw", 0, 1);
        x.due(true, "held", 23, 0);
        x.due(false, "held", 23, 1);
        x.dueRow("", "opened", 0, 1);
    }

    private static void opinionsOfOneClaimAreFull() {
        Run x = new Run("IllegalStateException: there are 300 of all claims").with(1, 2);
        for (int i = 0; i < 300; i++) {
            x.due(i + 1, "opinion", i % 30, 0, i % 100, i / 30, i % 10);
        }
        x.due(300, "count", 3);
        x.refused(STATE, "opinion", 30, 0, 0, 0, 0);
        x.refused(STATE, "opinion", 0, 0, 0, 10, 0);
        x.refused(STATE, "opinion", 0, 1, 0, 0, 0);
        x.refused(STATE, "opinion", 31, 1, 99, 100000, 9);
        x.refused(NO_ELEMENT, "opinion", 32, 0, 0, 0, 0);
        x.refused(NO_ELEMENT, "opinion", 0, 2, 0, 0, 0);
        x.refused(ARGUMENT, "opinion", 30, 0, 100, 0, 0);
        x.refused(ARGUMENT, "opinion", 30, 0, 0, 100001, 0);
        x.refused(ARGUMENT, "opinion", 30, 0, 0, 0, 10);
        // In place of one, but for what is wrong with it.
        x.refused(ARGUMENT, "opinion", 0, 0, 100, 0, 0);
        x.refused(ARGUMENT, "opinion", 0, 0, 0, 0, -1);
        x.due(300, "count", 3);
    }

    private static void opinionsOfAllClaimsAreFull() {
        Run x = new Run("there are 300 of all claims: 25 of each of 12").with(0, 13);
        for (int i = 0; i < 300; i++) {
            x.due(i / 12 + 1, "opinion", i / 12, i % 12, 50, 7, 5);
        }
        x.refused(STATE, "opinion", 25, 0, 50, 7, 5);
        x.refused(STATE, "opinion", 0, 12, 50, 7, 5);
        x.refused(STATE, "opinion", 0, 0, 50, 8, 5);
        x.refused(STATE, "opinion", 0, 0, 50, 6, 5);
        x.due(300, "count", 3);
        x.due(25, "opinion", 24, 11, 51, 7, 5);
    }

    private static void opinionInPlaceOfOne() {
        Run x = new Run("and this is not in place of one: it is").with(1, 2);
        x.go("rests", 0, 0, true);
        x.go("rule", 0, 1);
        for (int i = 0; i < 300; i++) {
            x.go("opinion", i % 30, i % 2, 40, i / 30, 0);
        }
        for (int person = 0; person < 30; person += 2) {
            x.due(150, "opinion", person, 0, person, 9, 1);
        }
        x.due(300, "count", 3);
        x.due(Run.TIE, "agreed", 0, 9);
        x.due(150, "opinion", 14, 0, 77, 9, 9);
        x.due(77, "agreed", 0, 9);
        x.due(77, "agreed", 0, 100000);
        x.due(40, "agreed", 0, 8);
        x.due(150, "opinion", 14, 0, 78, 9, 9);
        x.due(78, "agreed", 0, 9);
        x.due(300, "count", 3);
        x.refused(STATE, "opinion", 14, 0, 78, 10, 9);
        x.refused(STATE, "opinion", 14, 1, 78, 9, 9);
        x.refused(STATE, "opinion", 30, 0, 78, 9, 9);
    }

    private static void opinionInPlaceOfTheFirstAndTheLast() {
        Run x = new Run("in place of one: the first and the last of 300").with(1, 1);
        x.go("rests", 0, 0, true);
        for (int i = 0; i < 300; i++) {
            x.go("opinion", 0, 0, 10, i, 0);
        }
        x.due(300, "opinion", 0, 0, 11, 0, 0);
        x.due(300, "opinion", 0, 0, 12, 299, 0);
        x.due(11, "agreed", 0, 0);
        x.due(10, "agreed", 0, 1);
        x.due(10, "agreed", 0, 298);
        x.due(12, "agreed", 0, 299);
        x.refused(STATE, "opinion", 0, 0, 12, 300, 0);
        x.due(12, "agreed", 0, 300);
    }

    private static void allPersonsDissent() {
        Run x = new Run("each one with a known opinion dissents: all 32").with(1, 1);
        StringBuilder all = new StringBuilder();
        for (int person = 31; person >= 0; person--) {
            x.due(32 - person, "opinion", person, 0, person, 5, 0);
            all.append(all.length() == 0 ? "" : " ").append(31 - person);
        }
        x.dueRow(all.toString(), "dissent", 0, 5);
        x.go("rests", 0, 0, true);
        for (int rule = 0; rule <= 2; rule++) {
            x.go("rule", 0, rule);
            x.due(Run.TIE, "agreed", 0, 5);
            x.dueRow(all.toString(), "dissent", 0, 5);
        }
        x.dueRow("", "dissent", 0, 4);
    }

    private static void allPersonsAgree() {
        Run x = new Run("the value of all: of 32").with(1, 1);
        x.go("rests", 0, 0, true);
        for (int person = 0; person < 32; person++) {
            x.go("opinion", person, 0, 99, person, person % 10);
        }
        for (int rule = 0; rule <= 2; rule++) {
            x.go("rule", 0, rule);
            x.due(99, "agreed", 0, 100000);
            x.dueRow("", "dissent", 0, 100000);
        }
        x.go("opinion", 31, 0, 98, 31, 0);
        x.due(Run.TIE, "agreed", 0, 31);
        x.due(99, "agreed", 0, 30);
        x.go("rule", 0, 0);
        x.due(99, "agreed", 0, 31);
        x.dueRow("31", "dissent", 0, 31);
    }

    private static void lastOfFiveHundredTwelveCalls() {
        Run x = new Run("used for at most 512 calls: the last one").with(1, 1);
        x.go("rests", 0, 0, true);
        for (int call = 4; call < 511; call++) {
            x.go("opinion", call % 32, 0, call % 100, call % 9, 0);
        }
        x.due(288, "count", 3);
        x.due(true, "held", 0, 0);
    }
}
