import java.util.NoSuchElementException;

/** Promises 11 (opinion), 12 (rule), 13 (agreed) and 14 (dissent). */
final class OpinionTest {
    private static final int TIE = ClaimSources.TIE;
    private static final int NONE = ClaimSources.NONE;
    private static final int[] NO_DAYS = {-1, 100001, Integer.MIN_VALUE, Integer.MAX_VALUE};
    private static final int[] NO_CLAIMS = {-1, 2, 24, Integer.MIN_VALUE, Integer.MAX_VALUE};

    public static void main(String[] args) {
        opinionCountsThoseOfTheClaim();
        opinionInPlaceOfAnother();
        opinionRefusesTheThreeHundredFirst();
        opinionRefuses();
        ruleTellsWhatItWas();
        ruleRefuses();
        knownIsTheLatestNotAbove();
        agreedIsOpen();
        agreedByMost();
        agreedByRank();
        agreedByAll();
        agreedOfEachClaim();
        agreedRefuses();
        dissentByNumbers();
        dissentOfAnOpenOrTiedClaim();
        dissentRefuses();
        Due.end();
    }

    /** Two claims, both held from day 0 on by source 0. */
    private static ClaimSources twoHeld() {
        ClaimSources x = Make.with(1, 2);
        x.rests(0, 0, true);
        x.rests(1, 0, true);
        return x;
    }

    private static void opinionCountsThoseOfTheClaim() {
        ClaimSources x = Make.with(0, 2);
        Due.due("11: the first", x.opinion(0, 0, 0, 0, 0), 1);
        Due.due("11: greatest of all", x.opinion(31, 0, 99, 100000, 9), 2);
        Due.due("11: another day", x.opinion(0, 0, 0, 1, 0), 3);
        Due.due("11: another claim", x.opinion(0, 1, 0, 0, 0), 1);
        Due.due("11: the first claim again", x.opinion(5, 0, 0, 0, 0), 4);
        Due.due("11: of all claims", x.count(3), 5);
    }

    private static void opinionInPlaceOfAnother() {
        ClaimSources x = twoHeld();
        x.opinion(3, 0, 10, 5, 1);
        x.opinion(4, 0, 20, 5, 2);
        Due.due("11: in place", x.opinion(3, 0, 30, 5, 3), 2);
        Due.due("11: no more of all", x.count(3), 2);
        x.rule(0, 1);
        Due.due("11: value and rank are the new ones", x.agreed(0, 5), 30);
        Due.due("11: in place with a lower rank", x.opinion(3, 0, 30, 5, 0), 2);
        Due.due("11: the rank is the new one", x.agreed(0, 5), 20);
    }

    private static void opinionRefusesTheThreeHundredFirst() {
        ClaimSources x = twoHeld();
        for (int i = 0; i < 300; i++) {
            Due.due("11: opinion " + i, x.opinion(i % 30, i % 2, i % 100, i, i % 10), i / 2 + 1);
        }
        Due.dueThrow("11: another person", IllegalStateException.class,
                () -> x.opinion(31, 0, 1, 0, 0));
        Due.dueThrow("11: another day", IllegalStateException.class,
                () -> x.opinion(0, 0, 1, 1, 0));
        Due.dueThrow("11: another claim", IllegalStateException.class,
                () -> x.opinion(0, 1, 1, 0, 0));
        Due.dueThrow("11: the claim first", NoSuchElementException.class,
                () -> x.opinion(31, 2, 1, 0, 0));
        Due.dueThrow("11: the rank first", IllegalArgumentException.class,
                () -> x.opinion(31, 0, 1, 0, 10));
        Due.due("11: in place of one", x.opinion(299 % 30, 1, 42, 299, 9), 150);
        Due.due("11: there are 300", x.count(3), 300);
        x.rule(1, 1);
        Due.due("11: the one in place is said", x.agreed(1, 299), 42);
    }

    private static void opinionRefuses() {
        ClaimSources x = Make.with(5, 2);
        for (int person : new int[] {-1, 32, Integer.MIN_VALUE, Integer.MAX_VALUE}) {
            Due.dueThrow("11: person " + person, NoSuchElementException.class,
                    () -> x.opinion(person, 0, 0, 0, 0));
            Due.dueThrow("11: person " + person + " first", NoSuchElementException.class,
                    () -> x.opinion(person, 0, -1, -1, -1));
        }
        for (int claim : NO_CLAIMS) {
            Due.dueThrow("11: claim " + claim, NoSuchElementException.class,
                    () -> x.opinion(0, claim, 0, 0, 0));
            Due.dueThrow("11: claim " + claim + " first", NoSuchElementException.class,
                    () -> x.opinion(0, claim, 100, -1, 10));
        }
        for (int v : new int[] {-1, -2, 100, Integer.MIN_VALUE, Integer.MAX_VALUE}) {
            Due.dueThrow("11: value " + v, IllegalArgumentException.class,
                    () -> x.opinion(0, 0, v, 0, 0));
        }
        for (int day : NO_DAYS) {
            Due.dueThrow("11: day " + day, IllegalArgumentException.class,
                    () -> x.opinion(0, 0, 0, day, 0));
        }
        for (int rank : new int[] {-1, 10, Integer.MIN_VALUE, Integer.MAX_VALUE}) {
            Due.dueThrow("11: rank " + rank, IllegalArgumentException.class,
                    () -> x.opinion(0, 0, 0, 0, rank));
        }
        Due.due("11: nothing changed", x.count(3), 0);
    }

    private static void ruleTellsWhatItWas() {
        ClaimSources x = Make.with(0, 2);
        Due.due("12: 0 at first", x.rule(0, 2), 0);
        Due.due("12: 2 then", x.rule(0, 1), 2);
        Due.due("12: 1 then", x.rule(0, 1), 1);
        Due.due("12: the other claim", x.rule(1, 0), 0);
        Due.due("12: 1 still", x.rule(0, 0), 1);
        Due.due("12: 0 then", x.rule(0, 0), 0);
    }

    private static void ruleRefuses() {
        ClaimSources x = Make.with(5, 2);
        x.rule(0, 1);
        for (int claim : NO_CLAIMS) {
            Due.dueThrow("12: claim " + claim, NoSuchElementException.class,
                    () -> x.rule(claim, 0));
            Due.dueThrow("12: claim " + claim + " first", NoSuchElementException.class,
                    () -> x.rule(claim, 3));
        }
        for (int kind : new int[] {-1, 3, Integer.MIN_VALUE, Integer.MAX_VALUE}) {
            Due.dueThrow("12: kind " + kind, IllegalArgumentException.class,
                    () -> x.rule(0, kind));
        }
        Due.due("12: nothing changed", x.rule(0, 0), 1);
    }

    private static void knownIsTheLatestNotAbove() {
        ClaimSources x = twoHeld();
        x.opinion(0, 0, 20, 20, 0);
        x.opinion(0, 0, 10, 10, 9);
        x.opinion(0, 0, 30, 30, 0);
        for (int rule = 0; rule <= 2; rule++) {
            x.rule(0, rule);
            Due.due("13: day 9", x.agreed(0, 9), NONE);
            Due.due("13: day 10", x.agreed(0, 10), 10);
            Due.due("13: day 19", x.agreed(0, 19), 10);
            Due.due("13: day 20", x.agreed(0, 20), 20);
            Due.due("13: day 29", x.agreed(0, 29), 20);
            Due.due("13: day 100000", x.agreed(0, 100000), 30);
        }
        x.opinion(1, 0, 0, 0, 0);
        x.rule(0, 0);
        Due.due("13: day 0", x.agreed(0, 0), 0);
    }

    private static void agreedIsOpen() {
        ClaimSources x = new ClaimSources();
        x.source(0, 10);
        x.claim();
        x.rests(0, 0, true);
        for (int rule = 0; rule <= 2; rule++) {
            x.rule(0, rule);
            Due.due("13: no opinion", x.agreed(0, 10), NONE);
        }
        x.opinion(0, 0, 5, 3, 0);
        for (int rule = 0; rule <= 2; rule++) {
            x.rule(0, rule);
            Due.due("13: not held yet", x.agreed(0, 9), NONE);
            Due.due("13: held", x.agreed(0, 10), 5);
        }
        x.withdraw(0, 12);
        Due.due("13: not held any more", x.agreed(0, 12), NONE);
    }

    private static void agreedByMost() {
        ClaimSources x = twoHeld();
        x.opinion(0, 0, 99, 1, 9);
        Due.due("13: one", x.agreed(0, 50), 99);
        x.opinion(1, 0, 0, 1, 0);
        Due.due("13: one to one", x.agreed(0, 50), TIE);
        x.opinion(2, 0, 0, 1, 0);
        Due.due("13: two to one", x.agreed(0, 50), 0);
        x.opinion(3, 0, 7, 1, 0);
        Due.due("13: two of four are most", x.agreed(0, 50), 0);
        x.opinion(4, 0, 99, 1, 0);
        Due.due("13: two, two and one", x.agreed(0, 50), TIE);
        x.opinion(31, 0, 99, 2, 0);
        Due.due("13: three, two and one", x.agreed(0, 50), 99);
        Due.due("13: the day before", x.agreed(0, 1), TIE);
        x.opinion(0, 0, 7, 3, 0);
        x.opinion(31, 0, 7, 3, 0);
        Due.due("13: each person once", x.agreed(0, 50), 7);
    }

    private static void agreedByRank() {
        ClaimSources x = twoHeld();
        x.rule(0, 1);
        x.opinion(0, 0, 10, 5, 3);
        x.opinion(1, 0, 11, 9, 2);
        x.opinion(2, 0, 11, 9, 2);
        Due.due("13: the greatest rank, not day", x.agreed(0, 9), 10);
        x.opinion(3, 0, 12, 6, 3);
        Due.due("13: the greatest day of that rank", x.agreed(0, 9), 12);
        x.opinion(4, 0, 13, 6, 3);
        Due.due("13: two of that rank and day", x.agreed(0, 9), TIE);
        x.opinion(4, 0, 12, 6, 3);
        Due.due("13: two of one value", x.agreed(0, 9), 12);
        x.opinion(3, 0, 50, 8, 0);
        x.opinion(4, 0, 50, 8, 0);
        Due.due("13: of those known alone", x.agreed(0, 9), 10);
        x.opinion(31, 0, 99, 10, 9);
        Due.due("13: the day before", x.agreed(0, 9), 10);
        Due.due("13: rank 9", x.agreed(0, 10), 99);
        x.rule(1, 1);
        x.opinion(0, 1, 1, 9, 3);
        x.opinion(1, 1, 2, 5, 3);
        Due.due("13: the greatest day is person 0's", x.agreed(1, 9), 1);
    }

    private static void agreedByAll() {
        ClaimSources x = twoHeld();
        x.rule(0, 2);
        x.opinion(0, 0, 10, 5, 3);
        x.opinion(31, 0, 10, 6, 0);
        Due.due("13: all", x.agreed(0, 9), 10);
        x.opinion(7, 0, 0, 7, 9);
        Due.due("13: all but one", x.agreed(0, 9), TIE);
        Due.due("13: all the day before", x.agreed(0, 6), 10);
        x.opinion(7, 0, 10, 8, 0);
        Due.due("13: all again", x.agreed(0, 9), 10);
    }

    private static void agreedOfEachClaim() {
        ClaimSources x = twoHeld();
        x.opinion(0, 0, 10, 5, 3);
        x.opinion(0, 1, 20, 4, 3);
        x.opinion(1, 1, 20, 4, 3);
        Due.due("13: one claim", x.agreed(0, 9), 10);
        Due.due("13: the other one", x.agreed(1, 9), 20);
        Due.due("14: the other one's persons", Make.dissenters(x, 0, 9), "");
        x.rests(0, 0, false);
        Due.due("13: one is not held", x.agreed(0, 9), NONE);
        x.restsOn(0, 1);
        Due.due("13: held by the other one", x.agreed(0, 9), 10);
    }

    private static void agreedRefuses() {
        ClaimSources x = Make.with(5, 2);
        for (int claim : NO_CLAIMS) {
            Due.dueThrow("13: claim " + claim, NoSuchElementException.class,
                    () -> x.agreed(claim, 0));
            Due.dueThrow("13: claim " + claim + " first", NoSuchElementException.class,
                    () -> x.agreed(claim, -1));
        }
        for (int day : NO_DAYS) {
            Due.dueThrow("13: day " + day, IllegalArgumentException.class,
                    () -> x.agreed(0, day));
        }
    }

    private static void dissentByNumbers() {
        ClaimSources x = twoHeld();
        Due.due("14: no opinion", x.dissent(0, 0, 0), NONE);
        x.opinion(31, 0, 1, 5, 0);
        x.opinion(0, 0, 2, 5, 0);
        x.opinion(9, 0, 3, 5, 0);
        x.opinion(4, 0, 7, 5, 0);
        x.opinion(5, 0, 7, 5, 0);
        Due.due("14: by numbers", Make.dissenters(x, 0, 5), "0 9 31");
        Due.due("14: the second", x.dissent(0, 5, 1), 9);
        Due.due("14: behind the last", x.dissent(0, 5, 3), NONE);
        Due.due("14: far behind the last", x.dissent(0, 5, Integer.MAX_VALUE), NONE);
        Due.due("14: the day before", x.dissent(0, 4, 0), NONE);
        x.opinion(9, 0, 7, 6, 0);
        Due.due("14: who says so now", Make.dissenters(x, 0, 6), "0 31");
        x.rule(0, 1);
        x.opinion(31, 0, 1, 6, 1);
        Due.due("14: by the other rule", Make.dissenters(x, 0, 6), "0 4 5 9");
        for (int person = 0; person <= 30; person++) {
            x.opinion(person, 1, 8, 0, 0);
        }
        x.opinion(31, 1, 9, 0, 1);
        x.rule(1, 1);
        Due.due("14: the 31st", x.dissent(1, 0, 30), 30);
        Due.due("14: no 32nd", x.dissent(1, 0, 31), NONE);
    }

    private static void dissentOfAnOpenOrTiedClaim() {
        ClaimSources x = twoHeld();
        x.opinion(3, 0, 1, 5, 0);
        x.opinion(2, 0, 2, 6, 0);
        Due.due("14: a tie", Make.dissenters(x, 0, 6), "2 3");
        Due.due("14: all agree", Make.dissenters(x, 0, 5), "");
        x.rests(0, 0, false);
        Due.due("14: open", Make.dissenters(x, 0, 6), "2 3");
        Due.due("14: open, the day before", Make.dissenters(x, 0, 5), "3");
        Due.due("14: open, none known", Make.dissenters(x, 0, 4), "");
    }

    private static void dissentRefuses() {
        ClaimSources x = Make.with(5, 2);
        for (int claim : NO_CLAIMS) {
            Due.dueThrow("14: claim " + claim, NoSuchElementException.class,
                    () -> x.dissent(claim, 0, 0));
            Due.dueThrow("14: claim " + claim + " first", NoSuchElementException.class,
                    () -> x.dissent(claim, -1, 0));
        }
        Due.dueThrow("14: k -1", NoSuchElementException.class, () -> x.dissent(0, 0, -1));
        Due.dueThrow("14: k -1 first", NoSuchElementException.class, () -> x.dissent(0, -1, -1));
        Due.dueThrow("14: the least k", NoSuchElementException.class,
                () -> x.dissent(0, 0, Integer.MIN_VALUE));
        for (int day : NO_DAYS) {
            Due.dueThrow("14: day " + day, IllegalArgumentException.class,
                    () -> x.dissent(0, day, 0));
        }
    }
}
