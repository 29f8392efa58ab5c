/**
 * The edges that lie in the meaning of a sentence, not in a range: from which day on, up to which
 * one, in place of what, the first place, the last one, one more than the others.
 */
final class EdgeTest {
    private static final String NO_ELEMENT = Run.NO_ELEMENT;
    private static final int NONE = Run.NONE;
    private static final int TIE = Run.TIE;

    public static void main(String[] args) {
        withdrawnFromADayOn();
        withdrawnOnItsOwnDay();
        withdrawnOnTheFirstAndTheLastDay();
        notWithdrawnAnyMore();
        sourceDayIsNotAbove();
        heldOnThatDay();
        heldByOneOfTwo();
        noClaimRestsOnItself();
        ringOfTwo();
        ringOverOthers();
        shortestBeforeLowest();
        lowerWhereTheyDifferFirst();
        lowerInTheLastPlace();
        ringIsToldByNoOtherAnswer();
        ringOfLiftedClaims();
        sameDayIsInPlace();
        knownIsTheGreatestDay();
        openThoughAllSayTheSame();
        mostByOne();
        mostOfThree();
        rankBeforeDay();
        rankOfTheGreatestDay();
        rankOfThoseKnown();
        allButOne();
        dissentFromAValue();
        dissentFromNoneAndTie();
        openedByOneSourceOnly();
        openedOnTheEdgesOfDays();
        quoteAtEachPlace();
        quoteBehindTheEnd();
        marksOfACitation();
        digitsOfACitation();
        kindsOfACitation();
        citationOfTheFormOfToday();
        Due.end();
    }

    private static Run heldFrom(String sentence, int day) {
        Run x = new Run(sentence);
        x.go("source", 0, day);
        x.go("claim");
        x.go("rests", 0, 0, true);
        return x;
    }

    private static void withdrawnFromADayOn() {
        Run x = heldFrom("a source may be WITHDRAWN from a day on", 10);
        x.due(NONE, "withdraw", 0, 20);
        x.due(true, "held", 0, 19);
        x.due(false, "held", 0, 20);
        x.due(false, "held", 0, 21);
        x.due(false, "held", 0, 100000);
        x.due(20, "withdraw", 0, 21);
        x.due(true, "held", 0, 20);
        x.due(21, "withdraw", 0, 19);
        x.due(false, "held", 0, 19);
    }

    private static void withdrawnOnItsOwnDay() {
        Run x = heldFrom("WITHDRAWN from a day on: its own, and before", 10);
        x.go("withdraw", 0, 11);
        x.due(true, "held", 0, 10);
        x.due(false, "held", 0, 11);
        x.due(11, "withdraw", 0, 10);
        x.due(false, "held", 0, 10);
        x.due(10, "withdraw", 0, 9);
        x.due(false, "held", 0, 9);
        x.due(false, "held", 0, 10);
    }

    private static void withdrawnOnTheFirstAndTheLastDay() {
        Run x = heldFrom("WITHDRAWN from a day on: 0 and 100000", 0);
        x.due(NONE, "withdraw", 0, 100000);
        x.due(true, "held", 0, 99999);
        x.due(false, "held", 0, 100000);
        x.due(100000, "withdraw", 0, 0);
        x.due(false, "held", 0, 0);
        x.due(false, "held", 0, 100000);
        x.due(0, "withdraw", 0, 1);
        x.due(true, "held", 0, 0);
        x.due(false, "held", 0, 1);
    }

    private static void notWithdrawnAnyMore() {
        Run x = heldFrom("(NONE: it is not)", 0);
        x.go("withdraw", 0, 0);
        x.due(0, "withdraw", 0, NONE);
        x.due(true, "held", 0, 0);
        x.due(true, "held", 0, 100000);
        x.due(NONE, "withdraw", 0, NONE);
        x.refused(Run.ARGUMENT, "withdraw", 0, TIE);
        x.due(NONE, "withdraw", 0, 5);
    }

    private static void sourceDayIsNotAbove() {
        Run x = heldFrom("a source whose day is not above it", 10);
        x.due(false, "held", 0, 0);
        x.due(false, "held", 0, 9);
        x.due(true, "held", 0, 10);
        x.due(true, "held", 0, 11);
        x.due(true, "held", 0, 100000);
        Run y = heldFrom("a source whose day is not above it: 100000", 100000);
        y.due(false, "held", 0, 99999);
        y.due(true, "held", 0, 100000);
    }

    private static void heldOnThatDay() {
        Run x = heldFrom("or on a claim that is held on that day", 10).with(0, 2);
        x.go("restsOn", 1, 0);
        x.go("restsOn", 2, 1);
        x.go("withdraw", 0, 20);
        for (int claim = 0; claim <= 2; claim++) {
            x.due(false, "held", claim, 9);
            x.due(true, "held", claim, 10);
            x.due(true, "held", claim, 19);
            x.due(false, "held", claim, 20);
        }
        x.due(true, "lift", 1, 0);
        x.due(false, "held", 2, 10);
        x.due(true, "held", 0, 10);
    }

    private static void heldByOneOfTwo() {
        Run x = heldFrom("it rests on a source .. or on a claim: one is enough", 10).with(0, 2);
        x.go("source", 0, 30);
        x.go("rests", 2, 1, true);
        x.go("restsOn", 2, 0);
        x.go("restsOn", 2, 1);
        x.go("withdraw", 0, 20);
        x.due(false, "held", 2, 9);
        x.due(true, "held", 2, 10);
        x.due(false, "held", 2, 20);
        x.due(false, "held", 2, 29);
        x.due(true, "held", 2, 30);
        x.due(false, "held", 0, 30);
        x.due(false, "held", 1, 30);
    }

    private static void noClaimRestsOnItself() {
        Run x = new Run("No claim rests on itself").with(0, 24);
        for (int claim : new int[] {0, 1, 23}) {
            x.due(NONE, "restsOn", claim, claim);
            x.dueRow(String.valueOf(claim), "ring");
            x.due(false, "lift", claim, claim);
        }
        x.due(0, "count", 4);
    }

    private static void ringOfTwo() {
        Run x = new Run("each resting on the next, the last one on the first: two").with(0, 2);
        x.due(1, "restsOn", 0, 1);
        x.due(NONE, "restsOn", 1, 0);
        x.dueRow("1 0", "ring");
        x.due(1, "count", 4);
        x.due(0, "restsOn", 0, 1);
        x.due(true, "lift", 0, 1);
        x.due(1, "restsOn", 1, 0);
        x.due(NONE, "restsOn", 0, 1);
        x.dueRow("0 1", "ring");
    }

    private static void ringOverOthers() {
        Run x = new Run("No claim rests, over others, on itself").with(0, 4);
        x.due(1, "restsOn", 0, 2);
        x.due(1, "restsOn", 2, 1);
        x.due(1, "restsOn", 0, 1);
        x.due(1, "restsOn", 3, 0);
        x.due(NONE, "restsOn", 1, 3);
        x.dueRow("1 3 0", "ring");
        x.due(NONE, "restsOn", 2, 3);
        x.dueRow("2 3 0", "ring");
        x.due(true, "lift", 0, 1);
        x.due(NONE, "restsOn", 1, 3);
        x.dueRow("1 3 0 2", "ring");
        x.due(3, "count", 4);
    }

    private static void shortestBeforeLowest() {
        Run x = new Run("the shortest one is told, not the lowest").with(0, 6);
        x.go("restsOn", 5, 0);
        x.go("restsOn", 0, 1);
        x.go("restsOn", 1, 4);
        x.go("restsOn", 5, 3);
        x.go("restsOn", 3, 4);
        x.due(NONE, "restsOn", 4, 5);
        x.dueRow("4 5 3", "ring");
        x.due(1, "restsOn", 5, 4);
        x.due(NONE, "restsOn", 4, 5);
        x.dueRow("4 5", "ring");
    }

    private static void lowerWhereTheyDifferFirst() {
        Run x = new Run("the one with the lower number where they differ first").with(0, 7);
        // 6 5 1 4 and 6 5 2 3: the first difference counts, not the sum and not the last one.
        x.go("restsOn", 5, 2);
        x.go("restsOn", 2, 3);
        x.go("restsOn", 3, 6);
        x.go("restsOn", 5, 1);
        x.go("restsOn", 1, 4);
        x.go("restsOn", 4, 6);
        x.due(NONE, "restsOn", 6, 5);
        x.dueRow("6 5 1 4", "ring");
        x.go("lift", 1, 4);
        x.due(NONE, "restsOn", 6, 5);
        x.dueRow("6 5 2 3", "ring");
    }

    private static void lowerInTheLastPlace() {
        Run x = new Run("the lower number where they differ first: the last place").with(0, 24);
        x.go("restsOn", 2, 1);
        x.go("restsOn", 1, 23);
        x.go("restsOn", 23, 3);
        x.go("restsOn", 1, 22);
        x.go("restsOn", 22, 3);
        x.due(NONE, "restsOn", 3, 2);
        x.dueRow("3 2 1 22", "ring");
        x.go("restsOn", 1, 0);
        x.go("restsOn", 0, 3);
        x.due(NONE, "restsOn", 3, 2);
        x.dueRow("3 2 1 0", "ring");
    }

    private static void ringIsToldByNoOtherAnswer() {
        Run x = new Run("the ring that was told latest").with(1, 4);
        x.go("restsOn", 0, 1);
        x.go("restsOn", 1, 2);
        x.due(NONE, "restsOn", 2, 0);
        x.dueRow("2 0 1", "ring");
        x.due(1, "restsOn", 3, 0);
        x.due(0, "restsOn", 3, 0);
        x.due(true, "lift", 3, 0);
        x.go("rests", 0, 0, true);
        x.go("claim");
        x.refused(NO_ELEMENT, "restsOn", 5, 0);
        x.refused(NO_ELEMENT, "restsOn", 0, 5);
        x.refused(NO_ELEMENT, "restsOn", -1, -1);
        x.dueRow("2 0 1", "ring");
        x.due(NONE, "restsOn", 3, 3);
        x.dueRow("3", "ring");
        x.due(NONE, "restsOn", 2, 0);
        x.dueRow("2 0 1", "ring");
    }

    private static void ringOfLiftedClaims() {
        Run x = new Run("the ring that was told latest: lifted since then").with(0, 2);
        x.go("restsOn", 0, 1);
        x.due(NONE, "restsOn", 1, 0);
        x.due(true, "lift", 0, 1);
        x.dueRow("1 0", "ring");
        x.due(1, "restsOn", 1, 0);
        x.dueRow("1 0", "ring");
    }

    private static void sameDayIsInPlace() {
        Run x = heldFrom("(again on the same day: in place of the former one)", 0).with(0, 1);
        x.due(1, "opinion", 0, 0, 10, 5, 9);
        x.due(1, "opinion", 0, 0, 11, 5, 9);
        x.due(11, "agreed", 0, 5);
        x.due(1, "opinion", 0, 0, 11, 5, 9);
        x.due(2, "opinion", 0, 0, 12, 4, 9);
        x.due(3, "opinion", 0, 0, 13, 6, 9);
        x.due(4, "opinion", 1, 0, 14, 5, 0);
        x.due(1, "opinion", 0, 1, 15, 5, 0);
        x.due(5, "count", 3);
        x.go("rule", 0, 1);
        x.due(11, "agreed", 0, 5);
        x.due(4, "opinion", 0, 0, 11, 5, 0);
        x.due(TIE, "agreed", 0, 5);
        x.due(4, "opinion", 1, 0, 14, 5, 1);
        x.due(14, "agreed", 0, 5);
        x.due(5, "count", 3);
    }

    private static void knownIsTheGreatestDay() {
        Run x = heldFrom("KNOWN: the greatest day that is not above it", 0);
        // The later day is said first, and the one between last.
        x.go("opinion", 7, 0, 30, 30, 0);
        x.go("opinion", 7, 0, 10, 10, 9);
        x.go("opinion", 7, 0, 20, 20, 5);
        for (int rule = 0; rule <= 2; rule++) {
            x.go("rule", 0, rule);
            x.due(NONE, "agreed", 0, 9);
            x.due(10, "agreed", 0, 10);
            x.due(10, "agreed", 0, 19);
            x.due(20, "agreed", 0, 20);
            x.due(20, "agreed", 0, 29);
            x.due(30, "agreed", 0, 30);
            x.due(30, "agreed", 0, 100000);
        }
        x.go("opinion", 7, 0, 99, 0, 0);
        x.due(99, "agreed", 0, 0);
        x.due(99, "agreed", 0, 9);
        x.go("opinion", 7, 0, 98, 100000, 0);
        x.due(30, "agreed", 0, 99999);
        x.due(98, "agreed", 0, 100000);
    }

    private static void openThoughAllSayTheSame() {
        Run x = heldFrom("NONE (open) if the claim is not held", 10);
        x.go("withdraw", 0, 20);
        x.go("opinion", 0, 0, 5, 0, 9);
        x.go("opinion", 1, 0, 5, 0, 9);
        for (int rule = 0; rule <= 2; rule++) {
            x.go("rule", 0, rule);
            x.due(NONE, "agreed", 0, 9);
            x.due(5, "agreed", 0, 10);
            x.due(5, "agreed", 0, 19);
            x.due(NONE, "agreed", 0, 20);
        }
    }

    private static void mostByOne() {
        Run x = heldFrom("MOST: the value that most persons have", 0);
        for (int person = 0; person < 32; person++) {
            x.go("opinion", person, 0, person % 2 == 0 ? 99 : 0, 0, person % 10);
        }
        x.due(TIE, "agreed", 0, 0);
        x.go("opinion", 31, 0, 99, 1, 0);
        x.due(99, "agreed", 0, 1);
        x.due(TIE, "agreed", 0, 0);
        x.go("opinion", 0, 0, 0, 2, 0);
        x.due(TIE, "agreed", 0, 2);
        x.go("opinion", 2, 0, 0, 3, 0);
        x.due(0, "agreed", 0, 3);
    }

    private static void mostOfThree() {
        Run x = heldFrom("MOST: not more than half of them", 0);
        x.go("opinion", 0, 0, 1, 0, 0);
        x.go("opinion", 1, 0, 1, 0, 0);
        x.go("opinion", 2, 0, 2, 0, 9);
        x.go("opinion", 3, 0, 3, 0, 9);
        x.go("opinion", 4, 0, 4, 0, 9);
        x.due(1, "agreed", 0, 0);
        x.dueRow("2 3 4", "dissent", 0, 0);
        x.go("opinion", 5, 0, 4, 0, 0);
        x.due(TIE, "agreed", 0, 0);
        x.go("opinion", 6, 0, 3, 0, 0);
        x.due(TIE, "agreed", 0, 0);
        x.go("opinion", 7, 0, 2, 0, 0);
        x.go("opinion", 8, 0, 2, 0, 0);
        x.due(2, "agreed", 0, 0);
    }

    private static void rankBeforeDay() {
        Run x = heldFrom("RANK: of those known with the greatest rank", 0);
        x.go("rule", 0, 1);
        x.go("opinion", 0, 0, 50, 0, 1);
        x.go("opinion", 31, 0, 60, 100000, 0);
        x.go("opinion", 30, 0, 60, 100000, 0);
        x.due(50, "agreed", 0, 100000);
        x.dueRow("30 31", "dissent", 0, 100000);
        x.go("opinion", 31, 0, 70, 100000, 9);
        x.due(50, "agreed", 0, 99999);
        x.due(70, "agreed", 0, 100000);
        x.go("opinion", 0, 0, 50, 0, 9);
        x.due(70, "agreed", 0, 100000);
    }

    private static void rankOfTheGreatestDay() {
        Run x = heldFrom("RANK: the value of those with the greatest day", 0);
        x.go("rule", 0, 1);
        x.go("opinion", 0, 0, 1, 6, 4);
        x.go("opinion", 2, 0, 2, 5, 4);
        x.go("opinion", 4, 0, 2, 5, 4);
        x.go("opinion", 1, 0, 3, 7, 3);
        x.due(1, "agreed", 0, 7);
        x.due(2, "agreed", 0, 5);
        x.go("opinion", 5, 0, 1, 6, 4);
        x.due(1, "agreed", 0, 6);
        x.go("opinion", 6, 0, 0, 6, 4);
        x.due(TIE, "agreed", 0, 6);
        x.dueRow("0 1 2 4 5 6", "dissent", 0, 7);
    }

    private static void rankOfThoseKnown() {
        Run x = heldFrom("RANK: a person's former rank is not known any more", 0);
        x.go("rule", 0, 1);
        x.go("opinion", 0, 0, 1, 5, 9);
        x.go("opinion", 1, 0, 2, 5, 3);
        x.go("opinion", 0, 0, 3, 6, 2);
        x.due(1, "agreed", 0, 5);
        x.due(2, "agreed", 0, 6);
        x.dueRow("0", "dissent", 0, 6);
    }

    private static void allButOne() {
        Run x = heldFrom("ALL: the value of all. TIE if there is more than one", 0);
        x.go("rule", 0, 2);
        x.due(NONE, "agreed", 0, 0);
        x.go("opinion", 31, 0, 0, 0, 0);
        x.due(0, "agreed", 0, 0);
        x.go("opinion", 0, 0, 0, 1, 9);
        x.due(0, "agreed", 0, 1);
        x.go("opinion", 15, 0, 99, 2, 9);
        x.due(0, "agreed", 0, 1);
        x.due(TIE, "agreed", 0, 2);
        x.dueRow("0 15 31", "dissent", 0, 2);
        x.go("opinion", 15, 0, 0, 3, 0);
        x.due(0, "agreed", 0, 3);
        x.dueRow("", "dissent", 0, 3);
    }

    private static void dissentFromAValue() {
        Run x = heldFrom("A person DISSENTS whose known opinion is not the agreed value", 0);
        x.go("opinion", 31, 0, 1, 4, 0);
        x.go("opinion", 0, 0, 1, 4, 0);
        x.go("opinion", 16, 0, 0, 4, 0);
        x.go("opinion", 15, 0, 0, 4, 0);
        x.go("opinion", 8, 0, 0, 4, 0);
        x.due(0, "agreed", 0, 4);
        x.dueRow("0 31", "dissent", 0, 4);
        x.go("opinion", 0, 0, 0, 5, 0);
        x.dueRow("31", "dissent", 0, 5);
        x.dueRow("0 31", "dissent", 0, 4);
        x.dueRow("", "dissent", 0, 3);
    }

    private static void dissentFromNoneAndTie() {
        Run x = heldFrom("(if that is NONE or TIE: each one with a known opinion)", 10);
        x.go("opinion", 31, 0, 7, 5, 0);
        x.go("opinion", 0, 0, 7, 9, 0);
        x.dueRow("31", "dissent", 0, 8);
        x.dueRow("0 31", "dissent", 0, 9);
        x.dueRow("", "dissent", 0, 10);
        x.go("opinion", 3, 0, 8, 11, 0);
        x.dueRow("3", "dissent", 0, 11);
        x.go("opinion", 4, 0, 8, 12, 0);
        x.due(TIE, "agreed", 0, 12);
        x.dueRow("0 3 4 31", "dissent", 0, 12);
        x.go("withdraw", 0, 13);
        x.dueRow("0 3 4 31", "dissent", 0, 13);
    }

    private static void openedByOneSourceOnly() {
        Run x = new Run("would not be if a source were withdrawn by then").with(2, 4);
        x.go("rests", 3, 0, true);
        x.go("rests", 1, 0, true);
        x.go("rests", 1, 1, true);
        x.go("restsOn", 0, 3);
        x.go("restsOn", 2, 3);
        x.go("restsOn", 2, 1);
        x.dueRow("0 3", "opened", 0, 0);
        x.dueRow("", "opened", 1, 0);
        x.go("rests", 1, 1, false);
        x.dueRow("0 1 2 3", "opened", 0, 0);
        // To ask withdraws nothing.
        x.due(true, "held", 3, 0);
        x.due(NONE, "withdraw", 0, NONE);
    }

    private static void openedOnTheEdgesOfDays() {
        Run x = heldFrom("that is held on a day, and would not be", 10);
        x.go("source", 0, 12);
        x.go("rests", 0, 1, true);
        x.go("withdraw", 1, 15);
        x.go("withdraw", 0, 18);
        x.dueRow("", "opened", 0, 9);
        x.dueRow("0", "opened", 0, 10);
        x.dueRow("0", "opened", 0, 11);
        x.dueRow("", "opened", 0, 12);
        x.dueRow("", "opened", 1, 12);
        x.dueRow("", "opened", 0, 14);
        x.dueRow("0", "opened", 0, 15);
        x.dueRow("", "opened", 1, 15);
        x.dueRow("0", "opened", 0, 17);
        x.dueRow("", "opened", 0, 18);
    }

    private static void quoteAtEachPlace() {
        Run x = new Run("0, or the first place of the pad that does not stand there + 1");
        x.write("abab").go("source", 0, 0);
        x.write("aba").due(0, "quote", 0, 0);
        x.due(1, "quote", 0, 1);
        x.due(3, "quote", 0, 2);
        x.due(1, "quote", 0, 3);
        x.due(1, "quote", 0, 4);
        x.write("b").due(0, "quote", 0, 0);
        x.write("a").due(5, "quote", 0, 0);
        x.due(5, "count", 0);
        x.due(5, "clear");
        x.write("b").due(1, "quote", 0, 0);
        x.due(0, "quote", 0, 1);
        x.due(0, "quote", 0, 3);
        x.due(1, "quote", 0, 4);
    }

    private static void quoteBehindTheEnd() {
        Run x = new Run("the pad does not stand behind the text's end");
        // The pad had more signs once, and so had the form: no text has them.
        x.write("abcd").go("clear");
        x.write("ab").due(0, "source", 0, 0);
        x.write("cd").due(1, "source", 0, 0);
        x.write("abcd").due(3, "quote", 0, 0);
        x.due(1, "quote", 0, 1);
        x.due(1, "quote", 0, 2);
        x.refused(NO_ELEMENT, "quote", 0, 3);
        x.due(4, "form", 0);
        x.write("ab").due(2, "form", 0);
        x.dueCitation("ab", 0, 0);
    }

    private static void marksOfACitation() {
        Run x = new Run("each 35 its number, each 64 its day, each 36 its kind").with(12, 0);
        x.go("source", 2, 345);
        x.write("\"#$%?@A").due(7, "form", 0);
        x.dueCitation("\"12c%?345A", 12, 0);
        x.write("##@@$$").due(6, "form", 1);
        x.dueCitation("1212345345cc", 12, 1);
        x.dueCitation("0000aa", 0, 1);
        x.write("$").due(1, "form", 2);
        x.dueCitation("c", 12, 2);
        x.write("#").due(1, "form", 2);
        x.dueCitation("12", 12, 2);
        x.write("@").due(1, "form", 2);
        x.dueCitation("345", 12, 2);
    }

    private static void digitsOfACitation() {
        int[] days = {0, 9, 10, 99, 100, 999, 1000, 9999, 10000, 99999, 100000, 12345, 67890};
        Run x = new Run("numbers by their decimal digits").write("@#");
        x.go("form", 3);
        for (int day : days) {
            x.go("source", 0, day);
        }
        for (int source = 0; source < days.length; source++) {
            x.dueCitation(days[source] + "" + source, source, 3);
        }
    }

    private static void kindsOfACitation() {
        Run x = new Run("its kind (97 + it)").write("$");
        x.go("form", 0);
        for (int kind = 0; kind < 24; kind++) {
            x.go("source", kind, 0);
            x.due(97 + kind, "cite", kind, 0, 0);
        }
        Run y = new Run("its kind (97 + it): the last").write("$");
        y.go("form", 0);
        y.go("source", 24, 0);
        y.go("source", 25, 0);
        y.dueCitation("y", 0, 0);
        y.dueCitation("z", 1, 0);
    }

    private static void citationOfTheFormOfToday() {
        Run x = new Run("The pad becomes form k: in place of the former").with(1, 0);
        x.write("a longer form").due(13, "form", 0);
        x.write("short").due(5, "form", 0);
        x.dueCitation("short", 0, 0);
        x.write("pad");
        x.dueCitation("short", 0, 0);
        x.due(3, "count", 0);
    }
}
